/** Promise 20: see. */
public final class Promise20Test extends Check {
    private static HeartVanes full() {
        HeartVanes vanes = busy();
        for (int i = 3; i <= 6; i++) {
            vanes.see(i - 1, i, i);
        }
        return vanes;
    }

    static void promise20_personsAreSuchAsThereAre() {
        bounds("see(p, 0, 0) of 6", Check::busy, 0, 5, (vanes, p) -> vanes.see(p, 0, 0));
        bounds("see(p, 0, 0) of 2", Check::two, 0, 1, (vanes, p) -> vanes.see(p, 0, 0));
        bounds("see(p, 0, 0) of 1", Check::alone, 0, 0, (vanes, p) -> vanes.see(p, 0, 0));
    }

    static void promise20_hoursAre0To20() {
        bounds("see(0, n, 0)", Check::busy, 0, 20, (vanes, n) -> vanes.see(0, n, 0));
    }

    static void promise20_waysAre0To7() {
        bounds("see(0, 0, w)", Check::busy, 0, 7, (vanes, w) -> vanes.see(0, 0, w));
        bounds("see(2, 20, w)", Check::busy, 0, 7, (vanes, w) -> vanes.see(2, 20, w));
    }

    static void promise20_sixAtMost() {
        HeartVanes vanes = laid("p0,0,0;p0,3,3;");
        for (int i = 1; i <= 6; i++) {
            due("see, " + i, vanes.see(i % 2, 20, 7), i);
            due("count(6)", vanes.count(6), i);
        }
        due("see, the 7th", vanes.see(0, 20, 7), FULL);
        due("see, of another one", vanes.see(1, 0, 0), FULL);
        due("count(6), full", vanes.count(6), 6);
    }

    static void promise20_fullChangesNothing() {
        leaves("see(0, 0, 0), full", Promise20Test::full, vanes -> vanes.see(0, 0, 0), FULL);
        leaves("see(0, 1, 7), the same as one, full", Promise20Test::full, vanes -> vanes.see(0, 1, 7), FULL);
    }

    static void promise20_badIsAheadOfFull() {
        leaves("see(6, 0, 0), full", Promise20Test::full, vanes -> vanes.see(6, 0, 0), BAD);
        leaves("see(-1, 0, 0), full", Promise20Test::full, vanes -> vanes.see(-1, 0, 0), BAD);
        leaves("see(0, 21, 0), full", Promise20Test::full, vanes -> vanes.see(0, 21, 0), BAD);
        leaves("see(0, -1, 0), full", Promise20Test::full, vanes -> vanes.see(0, -1, 0), BAD);
        leaves("see(0, 0, 8), full", Promise20Test::full, vanes -> vanes.see(0, 0, 8), BAD);
        leaves("see(0, 0, -1), full", Promise20Test::full, vanes -> vanes.see(0, 0, -1), BAD);
    }

    static void promise20_theSameTwiceIsTwo() {
        HeartVanes vanes = new HeartVanes();
        due("see(0, 1, 6)", vanes.see(0, 1, 6), 1);
        due("see(0, 1, 6) again", vanes.see(0, 1, 6), 2);
        due("see(0, 1, 5), against it", vanes.see(0, 1, 5), 3);
    }

    static void promise20_forgottenItTakesSixAnew() {
        HeartVanes vanes = full();
        due("forget()", vanes.forget(), 6);
        for (int i = 1; i <= 6; i++) {
            due("see anew, " + i, vanes.see(0, 0, 0), i);
        }
        due("see anew, the 7th", vanes.see(0, 0, 0), FULL);
    }

    static void promise20_onlyWhatIsSeenChanges() {
        HeartVanes vanes = busy();
        due("see(4, 2, 2)", vanes.see(4, 2, 2), 3);
        int[] counts = {9, 8, 6, 5, 6, 8, 3, 4, 1, 111};
        for (int what = 0; what < counts.length; what++) {
            due("count(" + what + ")", vanes.count(what), counts[what]);
        }
        due("kinds(0) as before", vanes.kinds(0), busy().kinds(0));
        due("undo()", vanes.undo(), 3);
        due("count(6), undone", vanes.count(6), 3);
    }

    public static void main(String[] args) {
        runAll(Promise20Test.class);
    }
}
