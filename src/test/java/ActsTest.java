/** Promises 9 to 12. */
public final class ActsTest {
    private static final Check CHECK = new Check();

    private static void due(String call, long got, long want) {
        CHECK.due(call, got, want);
    }

    private static void dueRow(String text, int p, int... ways) {
        HeartVanes vanes = Check.laid(text);
        for (int n = 1; n <= ways.length; n++) {
            due("pass(1), the " + n + "th, of " + text, vanes.pass(1), n);
            due("what " + p + " tells behind " + n + " of " + text, vanes.person(p, 3), ways[n - 1]);
        }
    }

    private static void hours() {
        dueRow("p0,0,0;p0,3,3;l0,1,0,5;", 0, 3, 3);
        dueRow("p1,0,0;p0,3,3;l0,1,0,5;", 0, 1, 2, 3, 3);
        dueRow("p1,3,0;p0,3,3;l0,1,0,5;", 0, 1, 2, 3, 4, 4);
        dueRow("p1,3,0;p0,0,3;l0,1,0,5;", 0, 7, 6, 5, 5);
        dueRow("p1,3,3;p0,0,0;l0,1,0,5;", 0, 7, 7);
        dueRow("p2,0,0;", 0, 1, 2, 3, 4, 5, 6, 7, 0, 1);
        dueRow("p3,0,0;p0,3,3;l0,1,0,5;", 0, 7, 7);
        dueRow("p3,3,3;p0,0,0;l0,1,0,5;", 0, 3, 3);
        dueRow("p0,0,0;p0,3,3;", 0, 0, 0);
        dueRow("p1,0,0;p0,3,3;", 0, 0, 0);
        dueRow("p3,0,0;p0,3,3;", 0, 0, 0);
        HeartVanes vanes = Check.laid("p2,0,0;p1,3,0;p0,3,3;l1,2,0,5;");
        int[] bad = {Integer.MIN_VALUE, -1, 0, 25, Integer.MAX_VALUE};
        for (int n : bad) {
            due("pass(" + n + ")", vanes.pass(n), HeartVanes.BAD);
        }
        due("count(7), nothing passed", vanes.count(7), 0);
        due("pass(3)", vanes.pass(3), 3);
        due("a MILL behind 3", vanes.person(0, 3), 3);
        due("a STIFF one behind 3", vanes.person(1, 3), 3);
        due("pass(24)", vanes.pass(24), 27);
        due("a MILL behind 27", vanes.person(0, 3), 3);
        due("no DRAFT: as before", lostDraft(), 3);
    }

    private static int lostDraft() {
        HeartVanes vanes = Check.laid("p0,0,0;p0,3,3;l0,1,0,5;");
        vanes.pass(1);
        vanes.lean(0, 1, 0);
        vanes.pass(2);
        return vanes.person(0, 3);
    }

    private static void walks() {
        HeartVanes vanes = Check.laid("r3,2;p0,1,1;p0,2,1;");
        due("walk south, beyond", vanes.walk(0, 2), HeartVanes.NO);
        due("walk east, somebody", vanes.walk(0, 1), HeartVanes.NO);
        due("walk side 4", vanes.walk(0, 4), HeartVanes.BAD);
        due("walk side -1", vanes.walk(0, -1), HeartVanes.BAD);
        due("walk of 2", vanes.walk(2, 0), HeartVanes.BAD);
        due("walk of -1", vanes.walk(-1, 0), HeartVanes.BAD);
        due("walk(most, most)", vanes.walk(Integer.MAX_VALUE, Integer.MAX_VALUE), HeartVanes.BAD);
        due("count(7), nobody walked", vanes.count(7), 0);
        due("walk north", vanes.walk(0, 0), 10);
        due("walk north, beyond", vanes.walk(0, 0), HeartVanes.NO);
        due("walk east", vanes.walk(0, 1), 20);
        due("walk east, beyond", vanes.walk(0, 1), HeartVanes.NO);
        due("walk west", vanes.walk(0, 3), 10);
        due("walk west again", vanes.walk(0, 3), 0);
        due("walk west, beyond", vanes.walk(0, 3), HeartVanes.NO);
        due("walk south", vanes.walk(0, 2), 1);
        due("count(7), walked", vanes.count(7), 5);
        due("no HOUR by walks", vanes.count(3), 0);
    }

    private static void leanings() {
        HeartVanes vanes = Check.laid("p0,0,0;p0,3,3;l0,1,1,4;");
        due("lean(0, 1, 21)", vanes.lean(0, 1, 21), HeartVanes.BAD);
        due("lean(0, 1, -21)", vanes.lean(0, 1, -21), HeartVanes.BAD);
        due("lean(0, 1, least)", vanes.lean(0, 1, Integer.MIN_VALUE), HeartVanes.BAD);
        due("lean(1, 1, 0)", vanes.lean(1, 1, 0), HeartVanes.BAD);
        due("lean(2, 0, 0)", vanes.lean(2, 0, 0), HeartVanes.BAD);
        due("lean(0, -1, 0)", vanes.lean(0, -1, 0), HeartVanes.BAD);
        due("count(7), nothing told", vanes.count(7), 0);
        due("lean(0, 1, 20)", vanes.lean(0, 1, 20), 16);
        due("lean(0, 1, -20)", vanes.lean(0, 1, -20), 40);
        due("lean(0, 1, -20), the same", vanes.lean(0, 1, -20), 0);
        due("leaning(0, 1)", vanes.leaning(0, 1), 0);
        due("leaning(1, 0)", vanes.leaning(1, 0), 20);
        due("count(7), with the same", vanes.count(7), 3);
        due("undo(), the same", vanes.undo(), 2);
        due("leaning(0, 1), undone", vanes.leaning(0, 1), 0);
        due("undo()", vanes.undo(), 1);
        due("leaning(0, 1), undone twice", vanes.leaning(0, 1), 40);
    }

    private static void undoing() {
        HeartVanes vanes = Check.laid("p2,0,0;p0,3,3;l1,0,0,4;");
        due("undo() of nothing", vanes.undo(), HeartVanes.NO);
        vanes.pass(5);
        vanes.walk(0, 1);
        vanes.lean(1, 0, -3);
        vanes.pass(1);
        due("undo() of an HOUR", vanes.undo(), 3);
        due("HOURS", vanes.count(3), 5);
        due("the MILL", vanes.person(0, 3), 5);
        due("the PLAIN one", vanes.person(1, 3), 7);
        due("undo() of a LEANING", vanes.undo(), 2);
        due("the LEANING", vanes.leaning(1, 0), 24);
        due("undo() of a walk", vanes.undo(), 1);
        due("its PLACE", vanes.person(0, 1), 0);
        due("undo() of 5 HOURS at one time", vanes.undo(), 0);
        due("HOURS, none", vanes.count(3), 0);
        due("the MILL, at first", vanes.person(0, 3), 0);
        due("the PLAIN one, at first", vanes.person(1, 3), 0);
        due("undo() of nothing more", vanes.undo(), HeartVanes.NO);
        for (int i = 1; i <= 10; i++) {
            due("pass(1), " + i, vanes.pass(1), i);
            due("count(7), " + i, vanes.count(7), Math.min(i, 8));
        }
        for (int left = 7; left >= 0; left--) {
            due("undo(), " + left + " left", vanes.undo(), left);
        }
        due("undo() of the ninth", vanes.undo(), HeartVanes.NO);
        due("HOURS, 2 not to be UNDONE", vanes.count(3), 2);
        vanes.pass(24);
        due("undo() behind an act anew", vanes.undo(), 0);
        due("HOURS, 2 again", vanes.count(3), 2);
    }

    public static void main(String[] args) {
        hours();
        walks();
        leanings();
        undoing();
        CHECK.end();
    }
}
