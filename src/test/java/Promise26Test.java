/** Promise 26: keep. */
public final class Promise26Test extends Check {
    private static HeartVanes full() {
        HeartVanes vanes = busy();
        vanes.keep();
        vanes.lean(3, 4, 4);
        return vanes;
    }

    static void promise26_twoAtMost() {
        HeartVanes vanes = new HeartVanes();
        due("keep()", vanes.keep(), 1);
        due("count(8)", vanes.count(8), 1);
        due("keep() again", vanes.keep(), 2);
        due("count(8), two", vanes.count(8), 2);
        due("keep(), the third", vanes.keep(), FULL);
        due("count(8), full", vanes.count(8), 2);
    }

    static void promise26_fullChangesNothing() {
        leaves("keep(), the third", Promise26Test::full, HeartVanes::keep, FULL);
        HeartVanes vanes = full();
        vanes.keep();
        due("back() behind FULL", vanes.back(), 1);
        due("the LEANING that came behind the second", vanes.leaning(3, 4), 20);
    }

    static void promise26_behindBackItTakesAgain() {
        HeartVanes vanes = full();
        due("back()", vanes.back(), 1);
        due("keep()", vanes.keep(), 2);
        due("keep(), FULL again", vanes.keep(), FULL);
        due("back() twice", vanes.back(), 1);
        due("back() twice", vanes.back(), 0);
        due("keep() anew", vanes.keep(), 1);
    }

    static void promise26_behindLayItTakesTwoAgain() {
        HeartVanes vanes = full();
        vanes.lay();
        due("keep()", vanes.keep(), 1);
        due("keep() again", vanes.keep(), 2);
        due("keep(), the third", vanes.keep(), FULL);
    }

    static void promise26_itStandsAsBefore() {
        HeartVanes vanes = busy();
        due("keep()", vanes.keep(), 2);
        int[] counts = {9, 8, 6, 5, 6, 8, 2, 4, 2, 111};
        for (int what = 0; what < counts.length; what++) {
            due("count(" + what + ")", vanes.count(what), counts[what]);
        }
        due("undo()", vanes.undo(), 3);
        due("undo()", vanes.undo(), 2);
        due("the LEANING", vanes.leaning(1, 2), 20);
    }

    static void promise26_whatComesLaterIsNotKept() {
        HeartVanes vanes = laid("p2,0,0;p0,3,3;");
        vanes.keep();
        vanes.pass(5);
        vanes.walk(0, 1);
        vanes.lean(0, 1, 7);
        vanes.back();
        due("HOURS", vanes.count(3), 0);
        due("the MILL", vanes.person(0, 3), 0);
        due("its PLACE", vanes.place(0, 0), 0);
        due("its LEANING", vanes.leaning(0, 1), 20);
    }

    public static void main(String[] args) {
        runAll(Promise26Test.class);
    }
}
