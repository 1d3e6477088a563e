/** Promises 20 to 23. */
public final class SeenTest {
    private static final Check CHECK = new Check();

    private static void due(String call, long got, long want) {
        CHECK.due(call, got, want);
    }

    private static void seeing() {
        HeartVanes vanes = Check.laid("p0,0,0;p0,3,3;");
        due("see(2, 0, 0)", vanes.see(2, 0, 0), HeartVanes.BAD);
        due("see(-1, 0, 0)", vanes.see(-1, 0, 0), HeartVanes.BAD);
        due("see(0, -1, 0)", vanes.see(0, -1, 0), HeartVanes.BAD);
        due("see(0, 21, 0)", vanes.see(0, 21, 0), HeartVanes.BAD);
        due("see(0, 0, -1)", vanes.see(0, 0, -1), HeartVanes.BAD);
        due("see(0, 0, 8)", vanes.see(0, 0, 8), HeartVanes.BAD);
        due("forget() of nothing", vanes.forget(), 0);
        for (int i = 1; i <= 6; i++) {
            due("see, " + i, vanes.see(0, 20, 7), i);
        }
        due("see, the 7th", vanes.see(0, 20, 7), HeartVanes.FULL);
        due("see, BAD ahead of FULL", vanes.see(0, 21, 7), HeartVanes.BAD);
        due("count(6)", vanes.count(6), 6);
        due("forget()", vanes.forget(), 6);
        due("forget() again", vanes.forget(), 0);
        due("see, anew", vanes.see(1, 0, 0), 1);
        due("nothing to be UNDONE", vanes.count(7), 0);
    }

    private static void kindsSeen() {
        // the DRAFT of 0 is 3: PLAIN 3, STIFF 1, MILL 1, SHAM 7 behind one HOUR
        HeartVanes vanes = Check.laid("p0,0,0;p2,3,3;l0,1,0,5;");
        due("nothing seen", vanes.kinds(0), 15);
        vanes.see(0, 1, 1);
        due("1 behind 1", vanes.kinds(0), 2 | 4);
        due("of another one nothing", vanes.kinds(1), 15);
        vanes.see(0, 20, 3);
        due("and 3 behind 20", vanes.kinds(0), 2);
        vanes.forget();
        vanes.see(0, 1, 7);
        due("7 behind 1", vanes.kinds(0), 8);
        vanes.forget();
        vanes.see(0, 0, 0);
        due("0 behind none", vanes.kinds(0), 15);
        vanes.see(0, 11, 3);
        due("and 3 behind 11", vanes.kinds(0), 1 | 2 | 4);
        vanes.forget();
        vanes.see(0, 1, 1);
        vanes.pass(1);
        due("from how it stands when asked: 3, so that 1 is next for none", vanes.kinds(0), 0);
        vanes.undo();
        due("and from 0 again", vanes.kinds(0), 2 | 4);
        due("kinds(2)", vanes.kinds(2), HeartVanes.BAD);
        due("kinds(-1)", vanes.kinds(-1), HeartVanes.BAD);
        due("its KIND as before", vanes.person(0, 0), 0);
    }

    private static void loving() {
        HeartVanes vanes = Check.laid("r9,9;p0,0,0;p0,8,4;p0,8,3;p0,3,3;p0,6,6;l0,3,1,20;");
        due("loves(0, 3), 12 away is not felt", vanes.loves(0, 3), 8);
        due("loves(0, 2), 11 is, 12 is not", vanes.loves(0, 2), 4);
        due("loves(0, 7)", vanes.loves(0, 7), 0);
        due("loves(3, 7)", vanes.loves(3, 7), 1);
        due("loves(3, 3)", vanes.loves(3, 3), 16);
        due("loves(3, 2)", vanes.loves(3, 2), 2 | 4);
        due("loves(5, 0)", vanes.loves(5, 0), HeartVanes.BAD);
        due("loves(-1, 0)", vanes.loves(-1, 0), HeartVanes.BAD);
        due("loves(0, 8)", vanes.loves(0, 8), HeartVanes.BAD);
        due("loves(0, -1)", vanes.loves(0, -1), HeartVanes.BAD);
        due("loves(0, -4)", vanes.loves(0, -4), HeartVanes.BAD);
        due("its LEANING as before", vanes.leaning(0, 3), 0);
        due("one alone", Check.laid("p0,0,0;").loves(0, 0), 0);
    }

    public static void main(String[] args) {
        seeing();
        kindsSeen();
        loving();
        CHECK.end();
    }
}
