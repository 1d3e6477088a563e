/** Promises 1 to 8. */
public final class RoomsTest {
    private static final Check CHECK = new Check();

    private static void due(String call, long got, long want) {
        CHECK.due(call, got, want);
    }

    private static void dueFault(String text, int want) {
        HeartVanes vanes = Check.written(text);
        due("fault() of " + text, vanes.fault(), want);
        if (want != HeartVanes.NONE) {
            due("lay() of " + text, vanes.lay(), HeartVanes.NO);
        }
    }

    private static void newObject() {
        HeartVanes vanes = new HeartVanes();
        int[] counts = {7, 6, 6, 0, 6, 10, 0, 0, 0, 0};
        for (int what = 0; what < counts.length; what++) {
            due("new: count(" + what + ")", vanes.count(what), counts[what]);
        }
        int[][] people = {{0, 0, 0}, {1, 6, 5}, {2, 3, 2}, {3, 5, 1}, {0, 1, 4}, {0, 4, 4}};
        for (int p = 0; p < 6; p++) {
            for (int what = 0; what < 3; what++) {
                due("new: person(" + p + ", " + what + ")", vanes.person(p, what), people[p][what]);
            }
            due("new: person(" + p + ", 3)", vanes.person(p, 3), 0);
        }
        int[][] told = {{0, 1, 5}, {0, 2, -2}, {1, 0, 9}, {1, 4, 3}, {2, 3, 7}, {3, 2, 4}, {3, 5, -6}, {4, 5, 8}, {5, 4, 2}, {5, 0, 9}};
        int[][] want = new int[6][6];
        for (int[] row : told) {
            want[row[0]][row[1]] = row[2];
        }
        for (int a = 0; a < 6; a++) {
            for (int b = 0; b < 6; b++) {
                due("new: leaning(" + a + ", " + b + ")", vanes.leaning(a, b), a == b ? HeartVanes.BAD : want[a][b] + 20);
            }
        }
        due("new: fault()", vanes.fault(), HeartVanes.NONE);
        due("new: undo()", vanes.undo(), HeartVanes.NO);
        due("new: back()", vanes.back(), HeartVanes.NO);
    }

    private static void writing() {
        HeartVanes vanes = new HeartVanes();
        due("write(31)", vanes.write(31), HeartVanes.BAD);
        due("write(127)", vanes.write(127), HeartVanes.BAD);
        due("write(least)", vanes.write(Integer.MIN_VALUE), HeartVanes.BAD);
        due("write(most)", vanes.write(Integer.MAX_VALUE), HeartVanes.BAD);
        due("write(32)", vanes.write(32), 1);
        due("write(126)", vanes.write(126), 2);
        for (int i = 3; i <= 200; i++) {
            due("write, " + i, vanes.write('p'), i);
        }
        due("write, the 201st", vanes.write('p'), HeartVanes.FULL);
        due("write(31), full", vanes.write(31), HeartVanes.BAD);
        due("count(9), full", vanes.count(9), 200);
        due("wipe()", vanes.wipe(), 200);
        due("wipe() again", vanes.wipe(), 0);
        due("count(9), wiped", vanes.count(9), 0);
        due("fault(), wiped", vanes.fault(), HeartVanes.NONE);
        due("lay(), wiped", vanes.lay(), HeartVanes.NO);
        due("write, wiped", vanes.write('r'), 1);
    }

    private static void faultsOfForm() {
        dueFault("r9,9;", HeartVanes.NONE);
        dueFault("r09,01;p00,00,00;", HeartVanes.NONE);
        dueFault(" ", 0);
        dueFault("r6,6; ", 5);
        dueFault("r6,6;;", 5);
        dueFault("R6,6;", 0);
        dueFault("x1;", 0);
        dueFault("r6;", 0);
        dueFault("r6,6", 0);
        dueFault("r", 0);
        dueFault("r6,6;r", 5);
        dueFault("r6,6;r6", 5);
        dueFault("r6,6;r6,", 5);
        dueFault("r6,6;r6,6", 5);
        dueFault("r6,6,6;", 0);
        dueFault("r006,6;", 0);
        dueFault("r6,006;", 0);
        dueFault("r,6;", 0);
        dueFault("r6,;", 0);
        dueFault("r6 ,6;", 0);
        dueFault("r6;6;", 0);
        dueFault("r-6,6;", 0);
        dueFault("p0,0,0;p0,1,1", 7);
        dueFault("p0,0;", 0);
        dueFault("p0,0,0,0;", 0);
        dueFault("p0,0,0;p0,1,1;l0,1,0;", 14);
        dueFault("p0,0,0;p0,1,1;l0,1,0,5,5;", 14);
        dueFault("p0,0,0;p0,1,1;l0,1,0,5;", HeartVanes.NONE);
    }

    private static void faultsOfMeaning() {
        dueFault("r0,6;", 0);
        dueFault("r6,0;", 0);
        dueFault("r10,6;", 0);
        dueFault("r6,10;", 0);
        dueFault("r1,1;r9,9;p0,8,8;", HeartVanes.NONE);
        dueFault("r9,9;r1,1;p0,8,8;", 10);
        dueFault("p0,0,0;r6,6;", 7);
        dueFault("r6,6;p0,0,0;r6,6;", 12);
        dueFault("p4,0,0;", 0);
        dueFault("p3,5,5;", HeartVanes.NONE);
        dueFault("p0,6,0;", 0);
        dueFault("p0,0,6;", 0);
        dueFault("r3,5;p0,3,0;", 5);
        dueFault("r3,5;p0,2,4;p1,0,5;", 12);
        dueFault("p0,1,1;p1,1,1;", 7);
        dueFault("p0,0,0;p0,1,0;p0,2,0;p0,3,0;p0,4,0;p0,5,0;", HeartVanes.NONE);
        dueFault("p0,0,0;p0,1,0;p0,2,0;p0,3,0;p0,4,0;p0,5,0;p0,0,1;", 42);
        dueFault("l0,1,0,5;", 0);
        dueFault("p0,0,0;l0,1,0,5;p0,1,1;", 7);
        dueFault("p0,0,0;p0,1,1;l0,0,0,5;", 14);
        dueFault("p0,0,0;p0,1,1;l1,2,0,5;", 14);
        dueFault("p0,0,0;p0,1,1;l2,1,0,5;", 14);
        dueFault("p0,0,0;p0,1,1;l0,1,2,5;", 14);
        dueFault("p0,0,0;p0,1,1;l0,1,1,20;", HeartVanes.NONE);
        dueFault("p0,0,0;p0,1,1;l0,1,0,21;", 14);
        dueFault("p0,0,0;p0,1,1;l0,1,0,5;p0,2,2;l2,0,1,3;", HeartVanes.NONE);
        dueFault("p9,0,0;x", 0);
    }

    private static void laying() {
        HeartVanes vanes = Check.written("r6,6;");
        due("lay() without a PERSON", vanes.lay(), HeartVanes.NO);
        due("count(2), not laid", vanes.count(2), 6);
        due("count(0), not laid", vanes.count(0), 7);
        Check.writeAll(vanes, "p2,4,5;p1,0,3;l0,1,0,5;l1,0,1,20;l0,1,1,7;");
        vanes.pass(3);
        vanes.walk(0, 0);
        vanes.see(0, 1, 1);
        vanes.keep();
        due("lay()", vanes.lay(), 2);
        int[] counts = {6, 6, 2, 0, 2, 2, 0, 0, 0, 47};
        for (int what = 0; what < counts.length; what++) {
            due("laid: count(" + what + ")", vanes.count(what), counts[what]);
        }
        due("laid: the last one of both", vanes.leaning(0, 1), 13);
        due("laid: leaning(1, 0)", vanes.leaning(1, 0), 0);
        due("laid: person(0, 3)", vanes.person(0, 3), 0);
        due("laid: undo()", vanes.undo(), HeartVanes.NO);
        due("laid: back()", vanes.back(), HeartVanes.NO);
        due("laid: person(2, 0)", vanes.person(2, 0), HeartVanes.BAD);
        vanes.pass(5);
        vanes.keep();
        vanes.see(1, 2, 3);
        vanes.write('x');
        due("lay() with FAULT", vanes.lay(), HeartVanes.NO);
        due("not laid: count(3)", vanes.count(3), 5);
        due("not laid: count(6)", vanes.count(6), 1);
        due("not laid: count(7)", vanes.count(7), 1);
        due("not laid: count(8)", vanes.count(8), 1);
        due("not laid: person(0, 3)", vanes.person(0, 3), 5);
        due("a ROOM without r", Check.laid("p0,5,5;").count(0), 6);
        HeartVanes again = Check.laid("r2,3;r4,5;p0,3,4;");
        due("of several r, W", again.count(0), 4);
        due("of several r, H", again.count(1), 5);
        again.wipe();
        Check.writeAll(again, "p1,0,0;p1,1,0;");
        due("lay() anew", again.lay(), 2);
        due("laid anew: W", again.count(0), 6);
        due("laid anew: leaning", again.leaning(0, 1), 20);
    }

    private static void feelings() {
        HeartVanes vanes = Check.laid("r9,9;p0,0,0;p0,8,4;p0,8,3;p0,3,0;l0,1,0,20;l1,0,1,20;l0,2,0,10;l2,0,1,10;l0,3,1,2;");
        due("12 away is not felt, 11 is: east", vanes.person(0, 5), 10000 + 10 * 8 - 2 * 9 * 3);
        due("12 away is not felt, 11 is: south", vanes.person(0, 6), 10000 + 10 * 3);
        due("12 away: no DRAFT", vanes.person(1, 4), HeartVanes.NONE);
        due("leaning away, to the west by it: east", vanes.person(2, 5), 10000 + 80);
        due("leaning away, to the north by it: south", vanes.person(2, 6), 10000 + 30);
        due("leans toward nobody", vanes.person(3, 4), HeartVanes.NONE);
        due("leans toward nobody: east", vanes.person(3, 5), 10000);
        int[] far = {Integer.MIN_VALUE, -1, 4, Integer.MAX_VALUE};
        for (int p : far) {
            due("person(" + p + ", 0)", vanes.person(p, 0), HeartVanes.BAD);
            due("leaning(" + p + ", 0)", vanes.leaning(p, 0), HeartVanes.BAD);
            due("leaning(0, " + p + ")", vanes.leaning(0, p), HeartVanes.BAD);
        }
        due("person(0, -1)", vanes.person(0, -1), HeartVanes.BAD);
        due("person(0, 7)", vanes.person(0, 7), HeartVanes.BAD);
        due("leaning(1, 1)", vanes.leaning(1, 1), HeartVanes.BAD);
    }

    /** The DRAFT of one who leans toward another stands for the WAY to it. */
    private static void ways() {
        int[][] offsets = {
            {0, -1, 0}, {1, -3, 0}, {1, -2, 1}, {1, -1, 1}, {2, -1, 1}, {3, -1, 2}, {3, 0, 2}, {3, 1, 2},
            {2, 1, 3}, {1, 2, 3}, {1, 3, 4}, {0, 3, 4}, {-1, 3, 4}, {-1, 2, 5}, {-2, 1, 5}, {-3, 1, 6},
            {-1, 0, 6}, {-3, -1, 6}, {-2, -1, 7}, {-1, -2, 7}, {-1, -3, 0}};
        for (int[] offset : offsets) {
            String text = "r9,9;p0,4,4;p0," + (4 + offset[0]) + "," + (4 + offset[1]) + ";l0,1,0,3;";
            due("DRAFT in " + text, Check.laid(text).person(0, 4), offset[2]);
        }
    }

    private static void places() {
        HeartVanes vanes = Check.laid("r2,5;p0,1,4;p1,0,3;");
        due("place(1, 4)", vanes.place(1, 4), 0);
        due("place(0, 3)", vanes.place(0, 3), 1);
        due("place(1, 3)", vanes.place(1, 3), HeartVanes.NONE);
        due("place(2, 0)", vanes.place(2, 0), HeartVanes.BAD);
        due("place(0, 5)", vanes.place(0, 5), HeartVanes.BAD);
        due("place(-1, 0)", vanes.place(-1, 0), HeartVanes.BAD);
        due("place(0, -1)", vanes.place(0, -1), HeartVanes.BAD);
        due("place(most, least)", vanes.place(Integer.MAX_VALUE, Integer.MIN_VALUE), HeartVanes.BAD);
        vanes.walk(0, 0);
        due("place(1, 3), walked", vanes.place(1, 3), 0);
        due("place(1, 4), walked", vanes.place(1, 4), HeartVanes.NONE);
    }

    public static void main(String[] args) {
        newObject();
        writing();
        faultsOfForm();
        faultsOfMeaning();
        laying();
        feelings();
        ways();
        places();
        CHECK.end();
    }
}
