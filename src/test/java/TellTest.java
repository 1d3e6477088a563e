/** Promises 13 to 19. */
public final class TellTest {
    private static final Check CHECK = new Check();

    private static void due(String call, long got, long want) {
        CHECK.due(call, got, want);
    }

    private static void towards() {
        HeartVanes vanes = Check.laid("p0,2,4;p2,2,2;p0,1,0;p0,3,0;p0,0,2;");
        due("toward(0): north, just not more than twice at the side", vanes.toward(0), 2 | 4 | 8);
        due("toward(1): 2 to the north by 1 are between", vanes.toward(1), 0);
        vanes.pass(1);
        due("toward(1), north-east", vanes.toward(1), 8);
        vanes.pass(5);
        due("toward(1), west", vanes.toward(1), 16);
        int[][] next = {{3, 2}, {4, 2}, {4, 3}, {4, 4}, {3, 4}, {2, 4}, {2, 3}, {2, 2}};
        for (int w = 0; w < 8; w++) {
            HeartVanes two = Check.laid("p2,3,3;p0," + next[w][0] + "," + next[w][1] + ";");
            for (int told = 0; told < 8; told++) {
                due("toward(0), one next to it by " + w + ", told " + told, two.toward(0), told == w ? 2 : 0);
                two.pass(1);
            }
        }
        due("toward(5)", vanes.toward(5), HeartVanes.BAD);
        due("toward(-1)", vanes.toward(-1), HeartVanes.BAD);
        due("toward of one alone", Check.laid("p0,0,0;").toward(0), 0);
    }

    private static void lookings() {
        HeartVanes vanes = Check.laid("p0,2,4;p0,2,2;p0,2,0;p0,5,5;p0,5,3;");
        due("looked(0), 2 by two", vanes.looked(0), 2);
        due("looked(1)", vanes.looked(1), 2);
        due("looked(2)", vanes.looked(2), HeartVanes.BAD);
        due("looked(-1)", vanes.looked(-1), HeartVanes.BAD);
        HeartVanes three = Check.laid("p0,2,4;p0,2,2;p0,2,0;p0,2,5;");
        due("looked(0), 2 by three", three.looked(0), 2);
        due("looked(1), by three", three.looked(1), 3);
        HeartVanes alike = Check.laid("p0,0,5;p0,0,3;p0,5,5;p0,5,3;");
        due("looked(0), of several the lowest", alike.looked(0), 1);
        due("looked(1), of several", alike.looked(1), 1);
        HeartVanes alone = Check.laid("p0,3,3;");
        due("looked(0), one alone", alone.looked(0), 0);
        due("looked(1), one alone", alone.looked(1), 0);
    }

    private static void behinds() {
        HeartVanes vanes = Check.laid("p2,0,0;p1,3,0;p0,3,3;p3,5,5;l1,2,0,5;l2,1,0,5;l3,0,0,9;");
        for (int n = 0; n <= 40; n++) {
            due("behind(" + n + ", 0)", vanes.behind(n, 0), n % 8);
            due("behind(" + n + ", 1)", vanes.behind(n, 1), Math.min(n, 4));
            due("behind(" + n + ", 3)", vanes.behind(n, 3), n == 0 ? 0 : 3);
        }
        due("behind(41, 0)", vanes.behind(41, 0), HeartVanes.BAD);
        due("behind(-1, 0)", vanes.behind(-1, 0), HeartVanes.BAD);
        due("behind(0, 4)", vanes.behind(0, 4), HeartVanes.BAD);
        due("behind(0, -1)", vanes.behind(0, -1), HeartVanes.BAD);
        due("no HOUR by it", vanes.count(3), 0);
        due("no VANE by it", vanes.person(0, 3), 0);
        due("settled(), with a MILL", vanes.settled(), HeartVanes.NONE);
        due("no HOUR by settled()", vanes.count(3), 0);
        vanes.pass(3);
        due("behind(2, 0), 3 gone by", vanes.behind(2, 0), 5);
    }

    private static void settlings() {
        due("settled(), nobody leans", Check.laid("p0,0,0;p1,3,3;p3,5,5;").settled(), 0);
        due("settled(), a PLAIN one", Check.laid("p0,0,0;p0,3,3;l0,1,0,5;").settled(), 1);
        due("settled(), a PLAIN one to the north", Check.laid("p0,0,3;p0,0,0;l0,1,0,5;").settled(), 0);
        HeartVanes stiff = Check.laid("p1,3,0;p0,3,3;l0,1,0,5;");
        due("settled(), a STIFF one across", stiff.settled(), 4);
        stiff.pass(1);
        due("settled(), an HOUR later", stiff.settled(), 3);
    }

    private static void dueSteps(HeartVanes vanes, int p, int w, int... sides) {
        String call = "steps(" + p + ", " + w + ", ";
        due(call + "-1)", vanes.steps(p, w, -1), sides.length);
        for (int k = 0; k < sides.length; k++) {
            due(call + k + ")", vanes.steps(p, w, k), sides[k]);
        }
        due(call + "behind the last)", vanes.steps(p, w, sides.length), HeartVanes.NONE);
        due(call + "most)", vanes.steps(p, w, Integer.MAX_VALUE), HeartVanes.NONE);
    }

    private static void rowsOfSteps() {
        HeartVanes vanes = Check.laid("r9,9;p0,4,4;p0,4,2;l0,1,0,5;");
        dueSteps(vanes, 0, 0);
        dueSteps(vanes, 0, 1, 3);
        dueSteps(vanes, 0, 7, 1);
        // (5, 2) is to the east of the other one: west, by walks north and east only
        dueSteps(vanes, 0, 6, 0, 1, 0);
        dueSteps(vanes, 0, 2, 0, 3, 0);
        dueSteps(vanes, 0, 4, 0, 1, 0, 0, 3);
        // nobody walks through another one: round by the row behind it
        HeartVanes wall = Check.laid("r3,3;p0,0,1;p0,1,1;p0,0,0;l0,1,0,5;");
        dueSteps(wall, 0, 2);
        dueSteps(wall, 0, 6, 2, 1, 1, 0);
        HeartVanes shut = Check.laid("r3,1;p0,0,0;p0,1,0;l0,1,0,5;");
        due("steps, shut in", shut.steps(0, 6, -1), HeartVanes.NONE);
        due("steps, shut in, the first", shut.steps(0, 6, 0), HeartVanes.NONE);
        due("steps(2, 0, 0)", shut.steps(2, 0, 0), HeartVanes.BAD);
        due("steps(-1, 0, 0)", shut.steps(-1, 0, 0), HeartVanes.BAD);
        due("steps(0, 8, 0)", shut.steps(0, 8, 0), HeartVanes.BAD);
        due("steps(0, -1, 0)", shut.steps(0, -1, 0), HeartVanes.BAD);
        due("steps(1, -4, 0)", shut.steps(1, -4, 0), HeartVanes.BAD);
        due("steps(0, 0, -2)", shut.steps(0, 0, -2), HeartVanes.BAD);
        due("its PLACE as before", vanes.place(4, 4), 0);
        due("nothing to be UNDONE", vanes.count(7), 0);
    }

    private static void stands() {
        HeartVanes vanes = Check.laid("r3,3;p0,0,0;p0,1,1;p0,2,2;l1,0,0,5;");
        due("stand(0, 1, 7, 0), its own PLACE", vanes.stand(0, 1, 7, 0), 1);
        due("stand(0, 1, 7, 1)", vanes.stand(0, 1, 7, 1), 0);
        due("stand(0, 1, 3, 0), somebody there", vanes.stand(0, 1, 3, 0), 0);
        due("stand(0, 1, 3, 1)", vanes.stand(0, 1, 3, 1), HeartVanes.NONE);
        due("stand(0, 1, 2, 1)", vanes.stand(0, 1, 2, 1), 21);
        due("stand(2, 1, 7, 0), whom it does not lean to", vanes.stand(2, 1, 7, 0), 7);
        due("stand(2, 1, 7, 1)", vanes.stand(2, 1, 7, 1), 1);
        due("stand(1, 2, 7, 0), no DRAFT", vanes.stand(1, 2, 7, 0), 0);
        HeartVanes wide = Check.laid("r9,9;p0,0,0;p0,4,4;l1,0,1,2;");
        due("by X, then Y", wide.stand(0, 1, 4, 1), 30);
        due("stand, away from it", wide.stand(0, 1, 2, 1), 3);
        due("stand(0, 0, 0, 0)", wide.stand(0, 0, 0, 0), HeartVanes.BAD);
        due("stand(2, 0, 0, 0)", wide.stand(2, 0, 0, 0), HeartVanes.BAD);
        due("stand(0, 2, 0, 0)", wide.stand(0, 2, 0, 0), HeartVanes.BAD);
        due("stand(0, 1, 8, 0)", wide.stand(0, 1, 8, 0), HeartVanes.BAD);
        due("stand(0, 1, -1, 0)", wide.stand(0, 1, -1, 0), HeartVanes.BAD);
        due("stand(0, 1, 0, 2)", wide.stand(0, 1, 0, 2), HeartVanes.BAD);
        due("stand(0, 1, 0, -1)", wide.stand(0, 1, 0, -1), HeartVanes.BAD);
        due("nobody has walked", wide.place(0, 0), 0);
    }

    private static void dueMarried(String text, int together, int... mates) {
        HeartVanes vanes = Check.laid(text);
        due("marry(-1) of " + text, vanes.marry(-1), together);
        for (int p = 0; p < mates.length; p++) {
            due("marry(" + p + ") of " + text, vanes.marry(p), mates[p]);
        }
        due("marry(-2)", vanes.marry(-2), HeartVanes.BAD);
        due("marry(" + mates.length + ")", vanes.marry(mates.length), HeartVanes.BAD);
    }

    private static void marriages() {
        int none = HeartVanes.NONE;
        dueMarried("p0,0,0;", 0, none);
        dueMarried("p0,0,0;p0,1,0;l0,1,0,5;", 0, none, none);
        dueMarried("p0,0,0;p0,1,0;l0,1,0,5;l1,0,0,0;", 0, none, none);
        dueMarried("p0,0,0;p0,1,0;l1,0,0,5;", 0, none, none);
        dueMarried("p0,0,0;p0,1,0;l0,1,0,5;l1,0,0,1;", 2, 1, 0);
        dueMarried("p0,0,0;p0,1,0;p0,2,0;l1,2,0,5;l2,1,0,1;", 2, none, 2, 1);
        dueMarried("p0,0,0;p0,1,0;p0,2,0;l0,1,0,5;l1,0,0,5;l0,2,0,6;l2,0,0,1;", 2, 2, none, 0);
        // alike is not by more: the first way stands
        dueMarried("p0,0,0;p0,1,0;p0,2,0;l0,1,0,5;l1,0,0,5;l0,2,0,5;l2,0,0,1;", 2, 1, 0, none);
        // each leans most toward the next one of three
        dueMarried("p0,0,0;p0,1,0;p0,2,0;l0,1,0,9;l1,2,0,9;l2,0,0,9;l0,2,0,5;l1,0,0,5;l2,1,0,5;", none, none, none, none);
        // the third is with the fourth, whatever the others do
        dueMarried("p0,0,0;p0,1,0;p0,2,0;p0,3,0;l2,3,0,1;l3,2,0,1;", 2, none, none, 3, 2);
        dueMarried("p0,0,0;p0,1,0;p0,2,0;p0,3,0;l1,2,0,1;l2,1,0,1;l0,3,0,1;l3,0,0,1;", 4, 3, 2, 1, 0);
        dueMarried("p0,0,0;p0,1,0;p0,2,0;p0,3,0;l0,1,0,1;l1,0,0,1;l2,3,0,1;l3,2,0,1;", 4, 1, 0, 3, 2);
        // two ways stand: the one in which the lowest is with the lowest
        dueMarried("p0,0,0;p0,1,0;p0,2,0;p0,3,0;l0,2,0,1;l0,3,0,9;l1,2,0,9;l1,3,0,1;l2,0,0,9;l2,1,0,1;l3,0,0,1;l3,1,0,9;",
                4, 2, 3, 0, 1);
    }

    public static void main(String[] args) {
        towards();
        lookings();
        behinds();
        settlings();
        rowsOfSteps();
        stands();
        marriages();
        CHECK.end();
    }
}
