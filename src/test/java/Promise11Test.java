/** Promise 11: lean. */
public final class Promise11Test extends Check {
    static void promise11_leaningsAreLess20To20() {
        bounds("lean(0, 1, l)", Check::busy, -20, 20, (vanes, l) -> vanes.lean(0, 1, l));
        bounds("lean(1, 0, l)", Check::two, -20, 20, (vanes, l) -> vanes.lean(1, 0, l));
    }

    static void promise11_personsAreSuchAsThereAre() {
        bounds("lean(a, 0, 3) of 6", Check::busy, 1, 5, (vanes, a) -> vanes.lean(a, 0, 3));
        bounds("lean(a, 5, 3) of 6", Check::busy, 0, 4, (vanes, a) -> vanes.lean(a, 5, 3));
        bounds("lean(0, b, 3) of 6", Check::busy, 1, 5, (vanes, b) -> vanes.lean(0, b, 3));
        bounds("lean(5, b, 3) of 6", Check::busy, 0, 4, (vanes, b) -> vanes.lean(5, b, 3));
        bounds("lean(a, 0, 3) of 2", Check::two, 1, 1, (vanes, a) -> vanes.lean(a, 0, 3));
        bounds("lean(1, b, 3) of 2", Check::two, 0, 0, (vanes, b) -> vanes.lean(1, b, 3));
    }

    static void promise11_alikeIsBad() {
        for (int p = 0; p < 6; p++) {
            int asked = p;
            leaves("lean(" + p + ", " + p + ", 0)", Check::busy, vanes -> vanes.lean(asked, asked, 0), BAD);
            leaves("lean(" + p + ", " + p + ", 5)", Check::busy, vanes -> vanes.lean(asked, asked, 5), BAD);
        }
        leaves("lean(0, 0, 1) of one alone", Check::alone, vanes -> vanes.lean(0, 0, 1), BAD);
        leaves("lean(0, 1, 1) of one alone", Check::alone, vanes -> vanes.lean(0, 1, 1), BAD);
    }

    static void promise11_theAnswerIsByHowMuchItDid() {
        HeartVanes vanes = laid("p0,0,0;p0,3,3;l0,1,1,4;");
        int was = -4;
        for (int l = -20; l <= 20; l++) {
            due("lean(0, 1, " + l + ")", vanes.lean(0, 1, l), was + 20);
            due("leaning(0, 1)", vanes.leaning(0, 1), l + 20);
            due("leaning(1, 0)", vanes.leaning(1, 0), 20);
            was = l;
        }
        due("lean(0, 1, -20)", vanes.lean(0, 1, -20), 40);
        due("lean(0, 1, 20)", vanes.lean(0, 1, 20), 0);
    }

    static void promise11_theSameCanBeUndoneLikewise() {
        HeartVanes vanes = laid("p0,0,0;p0,3,3;l0,1,1,4;");
        due("lean(0, 1, -4), the same", vanes.lean(0, 1, -4), 16);
        due("count(7)", vanes.count(7), 1);
        due("lean(0, 1, 9)", vanes.lean(0, 1, 9), 16);
        due("lean(0, 1, 9), the same", vanes.lean(0, 1, 9), 29);
        due("count(7), with the same", vanes.count(7), 3);
        due("undo() of the same", vanes.undo(), 2);
        due("leaning(0, 1)", vanes.leaning(0, 1), 29);
        due("undo()", vanes.undo(), 1);
        due("leaning(0, 1), undone twice", vanes.leaning(0, 1), 16);
        due("undo() of the first", vanes.undo(), 0);
        due("undo() of nothing", vanes.undo(), NO);
    }

    static void promise11_theSame0PushesOutAnOlderAct() {
        HeartVanes vanes = laid("p0,0,0;p0,3,3;");
        vanes.pass(1);
        for (int i = 1; i <= 8; i++) {
            due("lean(0, 1, 0), " + i, vanes.lean(0, 1, 0), 20);
        }
        for (int left = 7; left >= 0; left--) {
            due("undo()", vanes.undo(), left);
        }
        due("undo() of the HOUR", vanes.undo(), NO);
        due("HOURS", vanes.count(3), 1);
    }

    static void promise11_oneLeaningIsToldAnew() {
        HeartVanes vanes = new HeartVanes();
        HeartVanes fresh = new HeartVanes();
        due("lean(3, 5, 11)", vanes.lean(3, 5, 11), 14);
        for (int a = 0; a < 6; a++) {
            for (int b = 0; b < 6; b++) {
                due("leaning(" + a + ", " + b + ")", vanes.leaning(a, b), a == 3 && b == 5 ? 31 : fresh.leaning(a, b));
            }
            due("its VANE", vanes.person(a, 3), 0);
        }
        due("HOURS", vanes.count(3), 0);
    }

    public static void main(String[] args) {
        runAll(Promise11Test.class);
    }
}
