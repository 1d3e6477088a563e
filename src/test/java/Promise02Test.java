/** Promise 2: write. */
public final class Promise02Test extends Check {
    private static HeartVanes full() {
        return laid(TEXT_OF_200);
    }

    static void promise02_lettersAre32To126() {
        bounds("write(letter)", Check::busy, 32, 126, HeartVanes::write);
        bounds("write(letter), the first", HeartVanes::new, 32, 126, HeartVanes::write);
        HeartVanes vanes = new HeartVanes();
        for (int letter = 32; letter <= 126; letter++) {
            due("write(" + letter + ")", vanes.write(letter), letter - 31);
        }
        leaves("write(0)", Check::busy, vanesOf -> vanesOf.write(0), BAD);
        leaves("write(10)", Check::busy, vanesOf -> vanesOf.write(10), BAD);
    }

    static void promise02_theAnswerIsHowLongItIs() {
        HeartVanes vanes = new HeartVanes();
        for (int i = 1; i <= 200; i++) {
            due("write, " + i, vanes.write('p'), i);
            due("count(9), " + i, vanes.count(9), i);
        }
    }

    static void promise02_the200thIsTakenThe201stIsFull() {
        HeartVanes vanes = new HeartVanes();
        writeAll(vanes, TEXT_OF_200.substring(0, 199));
        due("the 200th", vanes.write(TEXT_OF_200.charAt(199)), 200);
        due("the 201st", vanes.write(';'), FULL);
        due("the 202nd", vanes.write(';'), FULL);
        due("count(9)", vanes.count(9), 200);
        due("fault()", vanes.fault(), NONE);
        due("lay()", vanes.lay(), 6);
    }

    static void promise02_fullChangesNothing() {
        leaves("write(32), full", Promise02Test::full, vanes -> vanes.write(32), FULL);
        leaves("write(126), full", Promise02Test::full, vanes -> vanes.write(126), FULL);
    }

    static void promise02_badIsAheadOfFull() {
        int[] bad = {31, 127, -1, LEAST, MOST};
        for (int letter : bad) {
            leaves("write(" + letter + "), full", Promise02Test::full, vanes -> vanes.write(letter), BAD);
        }
    }

    static void promise02_wipedItTakes200Anew() {
        HeartVanes vanes = written("x".repeat(200));
        due("write, full", vanes.write('x'), FULL);
        due("wipe()", vanes.wipe(), 200);
        for (int i = 1; i <= 200; i++) {
            due("write anew, " + i, vanes.write(TEXT_OF_200.charAt(i - 1)), i);
        }
        due("write anew, the 201st", vanes.write('x'), FULL);
        due("fault() anew", vanes.fault(), NONE);
    }

    static void promise02_aLetterComesBehindTheText() {
        HeartVanes vanes = written("p0,0,0;p0,1,1;l0,1,0,1");
        due("fault() ahead of it", vanes.fault(), 14);
        due("write('9')", vanes.write('9'), 23);
        due("write(';')", vanes.write(';'), 24);
        due("fault()", vanes.fault(), NONE);
        due("lay()", vanes.lay(), 2);
        due("leaning(0, 1)", vanes.leaning(0, 1), 39);
    }

    static void promise02_theRoomStaysUntilItIsLaid() {
        HeartVanes vanes = new HeartVanes();
        writeAll(vanes, "r1,1;p2,0,0;");
        due("count(0)", vanes.count(0), 7);
        due("count(2)", vanes.count(2), 6);
        due("count(7)", vanes.count(7), 0);
    }

    public static void main(String[] args) {
        runAll(Promise02Test.class);
    }
}
