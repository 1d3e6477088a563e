/** Promise 15: behind. */
public final class Promise15Test extends Check {
    private static final String ALL_KINDS = "p2,0,0;p1,3,0;p0,3,3;p3,5,5;l1,2,0,5;l2,1,1,5;l3,0,0,9;";

    static void promise15_hoursAre0To40() {
        for (int p = 0; p < 6; p++) {
            int asked = p;
            bounds("behind(n, " + p + ")", Check::busy, 0, 40, (vanes, n) -> vanes.behind(n, asked));
        }
    }

    static void promise15_personsAreSuchAsThereAre() {
        int[] hours = {0, 1, 40};
        for (int n : hours) {
            bounds("behind(" + n + ", p) of 6", Check::busy, 0, 5, (vanes, p) -> vanes.behind(n, p));
            bounds("behind(" + n + ", p) of 2", Check::two, 0, 1, (vanes, p) -> vanes.behind(n, p));
            bounds("behind(" + n + ", p) of 1", Check::alone, 0, 0, (vanes, p) -> vanes.behind(n, p));
        }
    }

    static void promise15_eachKindBehind0To40() {
        HeartVanes vanes = laid(ALL_KINDS);
        for (int n = 0; n <= 40; n++) {
            due("the MILL behind " + n, vanes.behind(n, 0), n % 8);
            due("the STIFF one behind " + n, vanes.behind(n, 1), Math.min(n, 4));
            due("the PLAIN one behind " + n, vanes.behind(n, 2), n == 0 ? 0 : 4);
            due("the SHAM one behind " + n, vanes.behind(n, 3), n == 0 ? 0 : 3);
        }
    }

    static void promise15_behind0IsWhatItTells() {
        HeartVanes vanes = laid(ALL_KINDS);
        vanes.pass(3);
        for (int p = 0; p < 4; p++) {
            due("behind(0, " + p + ")", vanes.behind(0, p), vanes.person(p, 3));
        }
        due("the MILL behind 5 more", vanes.behind(5, 0), 0);
        due("the STIFF one behind 1 more", vanes.behind(1, 1), 4);
        due("the MILL behind 40 more", vanes.behind(40, 0), 3);
    }

    static void promise15_withoutDraftItStays() {
        HeartVanes vanes = laid("p0,0,0;p1,1,1;p3,2,2;p2,3,3;");
        for (int p = 0; p < 4; p++) {
            due("behind(1, " + p + ")", vanes.behind(1, p), p == 3 ? 1 : 0);
            due("behind(40, " + p + ")", vanes.behind(40, p), 0);
            due("behind(39, " + p + ")", vanes.behind(39, p), p == 3 ? 7 : 0);
        }
    }

    static void promise15_itIsAsIfTheyHadGoneBy() {
        for (int n = 1; n <= 24; n++) {
            HeartVanes asked = busy();
            HeartVanes gone = busy();
            gone.pass(n);
            for (int p = 0; p < 6; p++) {
                due("behind(" + n + ", " + p + ")", asked.behind(n, p), gone.person(p, 3));
            }
        }
    }

    static void promise15_itChangesNothing() {
        leaves("behind(40, 2), a MILL", Check::busy, vanes -> vanes.behind(40, 2), 5);
        leaves("behind(1, 2), a MILL", Check::busy, vanes -> vanes.behind(1, 2), 6);
        leaves("behind(0, 2), a MILL", Check::busy, vanes -> vanes.behind(0, 2), 5);
    }

    public static void main(String[] args) {
        runAll(Promise15Test.class);
    }
}
