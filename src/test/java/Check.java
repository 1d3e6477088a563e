/** What the tests share: an answer compared with the one that is due, and a text written letter by letter. */
final class Check {
    private int wrong = 0;
    private int made = 0;

    void due(String call, long got, long want) {
        made++;
        if (got != want) {
            wrong++;
            System.out.println(call + " answered " + got + ", due is " + want);
        }
    }

    static void writeAll(HeartVanes vanes, String text) {
        for (int i = 0; i < text.length(); i++) {
            vanes.write(text.charAt(i));
        }
    }

    static HeartVanes written(String text) {
        HeartVanes vanes = new HeartVanes();
        writeAll(vanes, text);
        return vanes;
    }

    /** A new object whose room is that of the text; a text that can't be laid would make a test void. */
    static HeartVanes laid(String text) {
        HeartVanes vanes = written(text);
        if (vanes.lay() < 1) {
            throw new IllegalArgumentException("not to be laid: " + text);
        }
        return vanes;
    }

    void end() {
        System.out.println(made + " answers, " + wrong + " of them wrong");
        if (wrong != 0) {
            System.exit(1);
        }
    }
}
