/** Promise 14: looked. */
public final class Promise14Test extends Check {
    private static void dueLooked(String text, int which, int many) {
        due("which, of " + text, laid(text).looked(0), which);
        due("how many, of " + text, laid(text).looked(1), many);
    }

    static void promise14_whatIs0Or1() {
        bounds("looked(what)", Check::busy, 0, 1, HeartVanes::looked);
        bounds("looked(what) of one alone", Check::alone, 0, 1, HeartVanes::looked);
    }

    static void promise14_nobodyIsLookedAt() {
        dueLooked("p0,3,3;", 0, 0);
        dueLooked("p0,0,0;p0,1,0;p0,2,0;", 0, 0);
        leaves("looked(0) of one alone", Check::alone, vanes -> vanes.looked(0), 0);
        leaves("looked(1) of one alone", Check::alone, vanes -> vanes.looked(1), 0);
    }

    static void promise14_byOneByAll() {
        dueLooked("p0,0,0;p0,0,1;", 0, 1);
        dueLooked("p0,0,1;p0,0,0;", 1, 1);
        dueLooked("p0,3,5;p0,3,4;p0,3,3;p0,3,2;p0,3,1;p0,3,0;", 5, 5);
        dueLooked("p0,3,0;p0,3,1;p0,3,2;p0,3,3;p0,3,4;p0,3,5;", 0, 5);
    }

    static void promise14_ofSeveralTheLowest() {
        dueLooked("p0,0,5;p0,0,3;p0,5,5;p0,5,3;", 1, 1);
        dueLooked("p0,0,5;p0,5,5;p0,5,3;p0,0,3;", 2, 1);
        // 4 by two and 5 by two
        dueLooked("p0,0,5;p0,0,4;p0,5,5;p0,5,4;p0,0,3;p0,5,3;", 4, 2);
    }

    static void promise14_theMostNotTheFirst() {
        dueLooked("p0,2,4;p0,2,2;p0,2,0;p0,5,5;p0,5,3;", 2, 2);
        dueLooked("p0,2,4;p0,2,2;p0,2,0;p0,2,5;", 2, 3);
        dueLooked("p0,2,4;p0,2,2;p0,5,5;p0,5,4;p0,5,3;", 4, 2);
    }

    static void promise14_itIsByTheVanes() {
        HeartVanes vanes = laid("p3,0,0;p0,0,3;l0,1,1,5;l1,0,1,4;");
        due("ahead of the HOUR", vanes.looked(0), 0);
        vanes.pass(1);
        // the DRAFT of 0 is north, the VANE across from it; the one of 1 tells south
        due("behind it", vanes.looked(0), 1);
        due("how many", vanes.looked(1), 1);
    }

    static void promise14_itChangesNothing() {
        // 0 by 1, 3 and 4; 2 by 1 and 5
        leaves("looked(0)", Check::busy, vanes -> vanes.looked(0), 0);
        leaves("looked(1)", Check::busy, vanes -> vanes.looked(1), 3);
    }

    public static void main(String[] args) {
        runAll(Promise14Test.class);
    }
}
