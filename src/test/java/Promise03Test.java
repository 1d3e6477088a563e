/** Promise 3: wipe. */
public final class Promise03Test extends Check {
    private static HeartVanes wiped() {
        HeartVanes vanes = busy();
        vanes.wipe();
        return vanes;
    }

    static void promise03_theAnswerIsHowLongItWas() {
        int[] lengths = {0, 1, 2, 199, 200};
        for (int length : lengths) {
            HeartVanes vanes = written("p".repeat(length));
            due("wipe() of " + length, vanes.wipe(), length);
            due("count(9) behind it", vanes.count(9), 0);
            due("wipe() again", vanes.wipe(), 0);
        }
    }

    static void promise03_lettersThatWereRefusedDoNotCount() {
        HeartVanes vanes = written("p".repeat(200));
        vanes.write('p');
        vanes.write(31);
        due("wipe(), full", vanes.wipe(), 200);
    }

    static void promise03_nothingOfTheTextIsLeft() {
        HeartVanes vanes = written("p0,0,0;x");
        due("fault() ahead", vanes.fault(), 7);
        vanes.wipe();
        due("fault()", vanes.fault(), NONE);
        due("lay()", vanes.lay(), NO);
        due("write", vanes.write('p'), 1);
        due("fault() of p alone, though more stood behind it", vanes.fault(), 0);
    }

    static void promise03_onlyTheTextIsWiped() {
        HeartVanes vanes = wiped();
        int[] counts = {9, 8, 6, 5, 6, 8, 2, 4, 1, 0};
        for (int what = 0; what < counts.length; what++) {
            due("count(" + what + ")", vanes.count(what), counts[what]);
        }
        due("undo()", vanes.undo(), 3);
        due("back()", vanes.back(), 0);
    }

    static void promise03_anEmptyOneStaysEmpty() {
        leaves("wipe(), wiped", Promise03Test::wiped, HeartVanes::wipe, 0);
    }

    public static void main(String[] args) {
        runAll(Promise03Test.class);
    }
}
