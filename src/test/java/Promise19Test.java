/** Promise 19: marry. */
public final class Promise19Test extends Check {
    private static final String TWO = "p0,0,0;p0,1,0;";
    private static final String THREE = TWO + "p0,2,0;";
    private static final String FOUR = THREE + "p0,3,0;";
    private static final String SIX = FOUR + "p0,4,0;p0,5,0;";
    /** Each of three leans most toward the next one, so that there is no way. */
    private static final String NO_WAY = THREE + "l0,1,0,9;l1,2,0,9;l2,0,0,9;l0,2,0,5;l1,0,0,5;l2,1,0,5;";

    private static String both(int a, int b, int ofA, int ofB) {
        return "l" + a + "," + b + ",0," + ofA + ";l" + b + "," + a + ",0," + ofB + ";";
    }

    private static void dueMarried(String text, int together, int... mates) {
        HeartVanes vanes = laid(text);
        due("marry(-1) of " + text, vanes.marry(-1), together);
        for (int p = 0; p < mates.length; p++) {
            due("marry(" + p + ") of " + text, vanes.marry(p), mates[p]);
        }
        due("marry(-2) of " + text, vanes.marry(-2), BAD);
        due("one more, of " + text, vanes.marry(mates.length), BAD);
    }

    static void promise19_personsAreSuchAsThereAreAndLess1() {
        bounds("marry(p) of 6", Check::busy, -1, 5, HeartVanes::marry);
        bounds("marry(p) of 2", Check::two, -1, 1, HeartVanes::marry);
        bounds("marry(p) of 1", Check::alone, -1, 0, HeartVanes::marry);
        bounds("marry(p) without a way", () -> laid(NO_WAY), -1, 2, HeartVanes::marry);
    }

    static void promise19_badIsAheadOfNone() {
        leaves("marry(3), no way", () -> laid(NO_WAY), vanes -> vanes.marry(3), BAD);
        leaves("marry(-2), no way", () -> laid(NO_WAY), vanes -> vanes.marry(-2), BAD);
    }

    static void promise19_thereIsNoWay() {
        dueMarried(NO_WAY, NONE, NONE, NONE, NONE);
        leaves("marry(-1), no way", () -> laid(NO_WAY), vanes -> vanes.marry(-1), NONE);
        leaves("marry(0), no way", () -> laid(NO_WAY), vanes -> vanes.marry(0), NONE);
        // one of them leaning alike toward both others is a way
        dueMarried(NO_WAY + "l0,2,0,9;", 2, 2, NONE, 0);
        // with a fourth whom nobody leans toward there is none either
        dueMarried(NO_WAY + "p0,5,5;", NONE, NONE, NONE, NONE, NONE);
    }

    static void promise19_allAloneIs0NotNone() {
        dueMarried("p0,0,0;", 0, NONE);
        dueMarried(TWO, 0, NONE, NONE);
        dueMarried(SIX, 0, NONE, NONE, NONE, NONE, NONE, NONE);
    }

    static void promise19_eachLeansByMoreThan0() {
        dueMarried(TWO + both(0, 1, 1, 1), 2, 1, 0);
        dueMarried(TWO + both(0, 1, 20, 20), 2, 1, 0);
        dueMarried(TWO + both(0, 1, 20, 1), 2, 1, 0);
        dueMarried(TWO + both(0, 1, 20, 0), 0, NONE, NONE);
        dueMarried(TWO + both(0, 1, 0, 20), 0, NONE, NONE);
        dueMarried(TWO + "l0,1,0,5;", 0, NONE, NONE);
        dueMarried(TWO + "l1,0,0,5;", 0, NONE, NONE);
        dueMarried(TWO + "l0,1,0,5;l1,0,1,5;", 0, NONE, NONE);
        dueMarried(TWO + "l0,1,1,5;l1,0,1,5;", 0, NONE, NONE);
    }

    static void promise19_twoWhoWouldLeave() {
        // 0 leans toward 2 by more than toward 1, and 2 toward 0: 1 stays alone
        dueMarried(THREE + both(0, 1, 5, 5) + both(0, 2, 6, 1), 2, 2, NONE, 0);
        // alike is not by more: the first way stands
        dueMarried(THREE + both(0, 1, 5, 5) + both(0, 2, 5, 1), 2, 1, 0, NONE);
        dueMarried(THREE + both(0, 1, 5, 5) + both(0, 2, 4, 1), 2, 1, 0, NONE);
        // 2 leans toward 0 by no more than 0
        dueMarried(THREE + both(0, 1, 5, 5) + both(0, 2, 6, 0), 2, 1, 0, NONE);
    }

    static void promise19_bothMustLeanByMore() {
        // 0 would rather be with 2, and 2 as well with 0 by one more than with 3; by alike it would not
        String couples = both(0, 1, 5, 5) + both(2, 3, 5, 5);
        dueMarried(FOUR + couples + both(0, 2, 6, 6), 2, 2, NONE, 0, NONE);
        dueMarried(FOUR + couples + both(0, 2, 6, 5), 4, 1, 0, 3, 2);
        dueMarried(FOUR + couples + both(0, 2, 5, 6), 4, 1, 0, 3, 2);
    }

    static void promise19_theLowestIsAhead() {
        // 0 alike toward all, each of them toward 0 alone
        dueMarried(FOUR + both(0, 3, 5, 5) + both(0, 2, 5, 5) + both(0, 1, 5, 5), 2, 1, 0, NONE, NONE);
        dueMarried(FOUR + both(0, 3, 5, 5) + both(0, 2, 5, 5), 2, 2, NONE, 0, NONE);
        // two ways stand: 0 with 2, 1 with 3, or the other way round
        dueMarried(FOUR + both(0, 2, 1, 9) + both(0, 3, 9, 1) + both(1, 2, 9, 1) + both(1, 3, 1, 9), 4, 2, 3, 0, 1);
    }

    static void promise19_aloneIsBehindAll() {
        // 1 alike toward 0 and 2: with 0 or 0 alone, both stand
        dueMarried(THREE + both(1, 2, 5, 5) + both(0, 1, 5, 5), 2, 1, 0, NONE);
        // 2 alike toward 1 and 3: 1 is not left alone
        dueMarried(FOUR + both(2, 3, 5, 5) + both(1, 2, 5, 5), 2, NONE, 2, 1, NONE);
    }

    static void promise19_thenTheNext() {
        // 0 with 1 in all, 2 alike toward 4 and 5
        dueMarried(SIX + both(0, 1, 9, 9) + both(2, 5, 3, 3) + both(2, 4, 3, 3), 4, 1, 0, 4, NONE, 2, NONE);
        dueMarried(SIX + both(2, 5, 3, 3) + both(2, 4, 3, 3) + both(3, 4, 3, 3), 2, NONE, NONE, 4, NONE, 2, NONE);
    }

    static void promise19_allSixAreTogether() {
        dueMarried(SIX + both(0, 5, 1, 1) + both(1, 4, 1, 1) + both(2, 3, 1, 1), 6, 5, 4, 3, 2, 1, 0);
        dueMarried(SIX + both(0, 1, 1, 1) + both(2, 3, 1, 1) + both(4, 5, 1, 1), 6, 1, 0, 3, 2, 5, 4);
        due("the room at first", new HeartVanes().marry(-1), 6);
    }

    static void promise19_itIsByHowTheyLeanNow() {
        HeartVanes vanes = laid(TWO + both(0, 1, 5, 5));
        vanes.lean(1, 0, 0);
        due("marry(-1)", vanes.marry(-1), 0);
        due("marry(0)", vanes.marry(0), NONE);
        vanes.lean(1, 0, 1);
        due("marry(-1), by 1", vanes.marry(-1), 2);
        vanes.undo();
        due("marry(-1), undone", vanes.marry(-1), 0);
    }

    static void promise19_itChangesNothing() {
        leaves("marry(-1)", Check::busy, vanes -> vanes.marry(-1), 4);
        leaves("marry(0)", Check::busy, vanes -> vanes.marry(0), 1);
        leaves("marry(3)", Check::busy, vanes -> vanes.marry(3), NONE);
    }

    public static void main(String[] args) {
        runAll(Promise19Test.class);
    }
}
