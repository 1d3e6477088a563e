/** Promise 16: settled. */
public final class Promise16Test extends Check {
    static void promise16_behind0() {
        due("nobody leans", laid("p0,0,0;p1,3,3;p3,5,5;").settled(), 0);
        due("one alone", laid("p0,0,0;").settled(), 0);
        due("a PLAIN one to the north", laid("p0,0,3;p0,0,0;l0,1,0,5;").settled(), 0);
        due("a STIFF one to the north", laid("p1,0,3;p0,0,0;l0,1,0,5;").settled(), 0);
        due("a SHAM one to the south", laid("p3,0,0;p0,0,3;l0,1,0,5;").settled(), 0);
        due("toward one too far", laid("r9,9;p0,0,0;p0,8,4;l0,1,0,20;").settled(), 0);
        due("toward one just not too far", laid("r9,9;p0,0,0;p0,8,3;l0,1,0,20;").settled(), 1);
    }

    static void promise16_behind1() {
        due("a PLAIN one", laid("p0,0,0;p0,3,3;l0,1,0,5;").settled(), 1);
        due("a SHAM one", laid("p3,0,0;p0,3,3;l0,1,0,5;").settled(), 1);
        due("a STIFF one next to it", laid("p1,0,3;p0,3,0;l0,1,0,5;").settled(), 1);
        due("a STIFF one next to it, on the left", laid("p1,3,3;p0,0,0;l0,1,0,5;").settled(), 1);
    }

    static void promise16_behind4TheLongestOfAStiffOne() {
        HeartVanes vanes = laid("p1,3,0;p0,3,3;l0,1,0,5;");
        for (int n = 4; n >= 0; n--) {
            due("settled(), " + (4 - n) + " gone by", vanes.settled(), n);
            vanes.pass(1);
        }
        due("settled() thereafter", vanes.settled(), 0);
        due("3 apart on the left", laid("p1,3,0;p0,0,3;l0,1,0,5;").settled(), 3);
        due("2 apart", laid("p1,0,0;p0,3,0;l0,1,0,5;").settled(), 2);
    }

    static void promise16_theLastOfAllCounts() {
        due("PLAIN and STIFF", laid("p0,0,0;p1,3,0;p0,3,3;l0,1,0,5;l1,2,0,5;").settled(), 4);
        due("PLAIN, behind the STIFF one", laid("p1,3,3;p0,3,0;p0,5,5;l0,1,0,5;l2,0,0,5;").settled(), 1);
    }

    static void promise16_aMillNeverSettles() {
        leaves("settled() of a MILL alone", Check::alone, HeartVanes::settled, NONE);
        due("with a MILL, nobody leans", laid("p0,0,0;p2,1,1;").settled(), NONE);
        due("with a MILL, the last of six", laid("p0,0,0;p0,1,0;p0,2,0;p0,3,0;p0,4,0;p2,5,0;").settled(), NONE);
        due("with a MILL, the first of six", laid("p2,0,0;p0,1,0;p0,2,0;p0,3,0;p0,4,0;p0,5,0;").settled(), NONE);
    }

    static void promise16_itIsByHowItStandsNow() {
        HeartVanes vanes = laid("p0,0,0;p0,3,3;l0,1,0,5;");
        vanes.pass(24);
        due("settled()", vanes.settled(), 0);
        vanes.lean(0, 1, -5);
        due("settled(), leaning away", vanes.settled(), 1);
        vanes.lean(0, 1, 0);
        due("settled(), no DRAFT", vanes.settled(), 0);
    }

    static void promise16_itChangesNothing() {
        leaves("settled() with a MILL", Check::busy, HeartVanes::settled, NONE);
        leaves("settled()", () -> laid("p1,3,0;p0,3,3;l0,1,0,5;"), HeartVanes::settled, 4);
        leaves("settled() of two", Check::two, HeartVanes::settled, 0);
    }

    public static void main(String[] args) {
        runAll(Promise16Test.class);
    }
}
