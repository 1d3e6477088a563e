/** Promise 9: pass, with what an HOUR does. */
public final class Promise09Test extends Check {
    /** 0 is in the middle, 1 to 4 stand to its north, north-east, east and south-east: toward or away from one of them is each WAY. */
    private static final String ALL_WAYS = ",4,4;p0,4,3;p0,5,3;p0,5,4;p0,5,5;";

    private static void setDraft(HeartVanes vanes, int way) {
        for (int q = 1; q <= 4; q++) {
            int toward = way % 4 + 1 == q ? 20 : 0;
            vanes.lean(0, q, way < 4 ? toward : -toward);
        }
    }

    static void promise09_hoursAre1To24() {
        bounds("pass(n)", Check::busy, 1, 24, HeartVanes::pass);
        bounds("pass(n) of one alone", Check::alone, 1, 24, HeartVanes::pass);
    }

    static void promise09_theAnswerIsHowManyInAll() {
        HeartVanes vanes = laid("p2,0,0;");
        int gone = 0;
        for (int n = 1; n <= 24; n++) {
            gone += n;
            due("pass(" + n + ")", vanes.pass(n), gone);
            due("count(3)", vanes.count(3), gone);
            due("what a MILL tells behind " + gone, vanes.person(0, 3), gone % 8);
        }
    }

    static void promise09_hoursAreUndoneFromTheSum() {
        HeartVanes vanes = laid("p2,0,0;");
        vanes.pass(24);
        vanes.pass(1);
        vanes.undo();
        due("pass(2)", vanes.pass(2), 26);
    }

    static void promise09_severalAtOneTimeAreAsOneByOne() {
        for (int n = 1; n <= 24; n++) {
            HeartVanes atOnce = new HeartVanes();
            HeartVanes single = new HeartVanes();
            due("pass(" + n + ")", atOnce.pass(n), n);
            for (int i = 1; i <= n; i++) {
                due("pass(1), " + i, single.pass(1), i);
            }
            for (int p = 0; p < 6; p++) {
                due("what " + p + " tells behind " + n, atOnce.person(p, 3), single.person(p, 3));
            }
        }
    }

    static void promise09_aPlainOneTellsTheDraft() {
        HeartVanes vanes = laid("r9,9;p0" + ALL_WAYS);
        for (int told = 0; told < 8; told++) {
            for (int draft = 0; draft < 8; draft++) {
                tellAhead(vanes, told, draft);
                vanes.pass(1);
                due("from " + told + ", DRAFT " + draft, vanes.person(0, 3), draft);
            }
            vanes = laid("r9,9;p0" + ALL_WAYS);
        }
    }

    /** Turns a PLAIN or SHAM VANE to told and sets the DRAFT. */
    private static void tellAhead(HeartVanes vanes, int told, int draft) {
        setDraft(vanes, vanes.person(0, 0) == 3 ? (told + 4) % 8 : told);
        vanes.pass(1);
        due("turned ahead", vanes.person(0, 3), told);
        setDraft(vanes, draft);
        due("DRAFT", vanes.person(0, 4), draft);
    }

    static void promise09_aShamOneTellsTheWayAcross() {
        int[] across = {4, 5, 6, 7, 0, 1, 2, 3};
        for (int told = 0; told < 8; told++) {
            HeartVanes vanes = laid("r9,9;p3" + ALL_WAYS);
            for (int draft = 0; draft < 8; draft++) {
                tellAhead(vanes, told, draft);
                vanes.pass(1);
                due("from " + told + ", DRAFT " + draft, vanes.person(0, 3), across[draft]);
                vanes.pass(1);
                due("and an HOUR later", vanes.person(0, 3), across[draft]);
            }
        }
    }

    /** Rows by what is told, columns by the DRAFT: both are alike where they are 4 apart, and the right is 1 more. */
    static void promise09_aStiffOneTellsTheNextTowardTheDraft() {
        int[][] next = {
            {0, 1, 1, 1, 1, 7, 7, 7},
            {0, 1, 2, 2, 2, 2, 0, 0},
            {1, 1, 2, 3, 3, 3, 3, 1},
            {2, 2, 2, 3, 4, 4, 4, 4},
            {5, 3, 3, 3, 4, 5, 5, 5},
            {6, 6, 4, 4, 4, 5, 6, 6},
            {7, 7, 7, 5, 5, 5, 6, 7},
            {0, 0, 0, 0, 6, 6, 6, 7}};
        for (int told = 0; told < 8; told++) {
            for (int draft = 0; draft < 8; draft++) {
                HeartVanes vanes = laid("r9,9;p1" + ALL_WAYS);
                setDraft(vanes, told);
                vanes.pass(4);
                due("turned ahead", vanes.person(0, 3), told);
                setDraft(vanes, draft);
                vanes.pass(1);
                due("from " + told + ", DRAFT " + draft, vanes.person(0, 3), next[told][draft]);
            }
        }
    }

    static void promise09_aStiffOneStaysAtTheDraft() {
        HeartVanes vanes = laid("r9,9;p1" + ALL_WAYS);
        setDraft(vanes, 4);
        int[] due = {1, 2, 3, 4, 4, 4};
        for (int n = 0; n < due.length; n++) {
            vanes.pass(1);
            due("behind " + (n + 1), vanes.person(0, 3), due[n]);
        }
    }

    static void promise09_behind7ComesA0OfAMill() {
        HeartVanes vanes = laid("r9,9;p2" + ALL_WAYS);
        setDraft(vanes, 5);
        for (int n = 1; n <= 17; n++) {
            vanes.pass(1);
            due("with a DRAFT, behind " + n, vanes.person(0, 3), n % 8);
        }
    }

    static void promise09_theSameAsBeforeIfThereIsNoDraft() {
        int[] told = {3, 3, 3, 7};
        for (int kind = 0; kind < 4; kind++) {
            HeartVanes vanes = laid("p" + kind + ",0,0;p0,3,3;l0,1,0,5;");
            vanes.pass(3);
            due("KIND " + kind + " ahead of it", vanes.person(0, 3), told[kind]);
            vanes.lean(0, 1, 0);
            due("DRAFT", vanes.person(0, 4), NONE);
            vanes.pass(1);
            due("KIND " + kind, vanes.person(0, 3), kind == 2 ? 4 : told[kind]);
            vanes.pass(24);
            due("KIND " + kind + " 24 later", vanes.person(0, 3), kind == 2 ? 4 : told[kind]);
        }
    }

    static void promise09_12OrMoreAwayTurnsNoVaneButAMill() {
        String[] far = {"8,4", "8,5", "7,8", "8,8"};
        for (String place : far) {
            for (int kind = 0; kind < 4; kind++) {
                HeartVanes vanes = laid("r9,9;p" + kind + ",0,0;p0," + place + ";l0,1,0,20;");
                vanes.pass(3);
                due("KIND " + kind + ", one at " + place, vanes.person(0, 3), kind == 2 ? 3 : 0);
            }
        }
    }

    static void promise09_the0OfTheBeginningStaysWithoutDraft() {
        int[] told = {0, 0, 1, 0};
        for (int kind = 0; kind < 4; kind++) {
            HeartVanes vanes = laid("p" + kind + ",0,0;p0,3,3;l1,0,0,5;");
            vanes.pass(1);
            due("KIND " + kind, vanes.person(0, 3), told[kind]);
        }
    }

    static void promise09_nobodyWalksAndNoLeaningChanges() {
        HeartVanes vanes = new HeartVanes();
        vanes.pass(24);
        HeartVanes fresh = new HeartVanes();
        for (int p = 0; p < 6; p++) {
            for (int what = 0; what < 7; what++) {
                if (what != 3) {
                    due("person(" + p + ", " + what + ")", vanes.person(p, what), fresh.person(p, what));
                }
            }
            for (int q = 0; q < 6; q++) {
                due("leaning(" + p + ", " + q + ")", vanes.leaning(p, q), fresh.leaning(p, q));
            }
        }
        due("KEPT", vanes.count(8), 0);
        due("one act", vanes.count(7), 1);
    }

    public static void main(String[] args) {
        runAll(Promise09Test.class);
    }
}
