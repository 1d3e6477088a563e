/** Promises 24 to 28. */
public final class EveningsTest {
    private static final Check CHECK = new Check();

    private static void due(String call, long got, long want) {
        CHECK.due(call, got, want);
    }

    private static void dueChance(HeartVanes vanes, int p, int w, int x, int above, int below) {
        String call = "away(" + p + ", " + w + ", " + x + ", ";
        due(call + "0)", vanes.away(p, w, x, 0), above);
        due(call + "1)", vanes.away(p, w, x, 1), below);
    }

    private static void chances() {
        HeartVanes vanes = Check.laid("p0,0,0;p0,3,0;p0,0,3;p0,5,5;l0,1,0,5;l0,2,0,5;");
        dueChance(vanes, 0, 3, 0, 1, 1);
        dueChance(vanes, 0, 3, 10, 0, 1);
        dueChance(vanes, 0, 3, 5, 1, 4);
        dueChance(vanes, 0, 2, 3, 21, 100);
        dueChance(vanes, 0, 4, 2, 4, 25);
        dueChance(vanes, 0, 0, 5, 0, 1);
        dueChance(vanes, 3, 7, 5, 0, 1);
        dueChance(Check.laid("p0,0,0;"), 0, 0, 4, 0, 1);
        HeartVanes six = Check.laid("p0,0,0;p0,1,0;p0,2,0;p0,3,0;p0,4,0;p0,5,0;l0,1,0,1;l0,2,0,1;l0,3,0,1;l0,4,0,1;l0,5,0,1;");
        dueChance(six, 0, 2, 9, 40951, 100000);
        due("away(6, 0, 0, 0)", six.away(6, 0, 0, 0), HeartVanes.BAD);
        due("away(-1, 0, 0, 0)", six.away(-1, 0, 0, 0), HeartVanes.BAD);
        due("away(0, 8, 0, 0)", six.away(0, 8, 0, 0), HeartVanes.BAD);
        due("away(0, -1, 0, 0)", six.away(0, -1, 0, 0), HeartVanes.BAD);
        due("away(0, -4, 10, 0)", six.away(0, -4, 10, 0), HeartVanes.BAD);
        due("away(0, 0, 11, 0)", six.away(0, 0, 11, 0), HeartVanes.BAD);
        due("away(0, 0, -1, 0)", six.away(0, 0, -1, 0), HeartVanes.BAD);
        due("away(0, 0, 0, 2)", six.away(0, 0, 0, 2), HeartVanes.BAD);
        due("away(0, 0, 0, -1)", six.away(0, 0, 0, -1), HeartVanes.BAD);
    }

    private static void evenings() {
        HeartVanes vanes = new HeartVanes();
        due("evening(5, 60, 0)", vanes.evening(5, 60, 0), 33);
        due("evening(5, 60, 1)", vanes.evening(5, 60, 1), 80);
        int[] counts = {7, 6, 6, 0, 6, 10, 0, 0, 0, 0};
        for (int what = 0; what < counts.length; what++) {
            due("behind an evening: count(" + what + ")", vanes.count(what), counts[what]);
        }
        due("behind an evening: place(0, 0)", vanes.place(0, 0), 0);
        due("behind an evening: person(0, 3)", vanes.person(0, 3), 0);
        due("evening(-1, 1, 0)", vanes.evening(-1, 1, 0), HeartVanes.BAD);
        due("evening(10000, 1, 0)", vanes.evening(10000, 1, 0), HeartVanes.BAD);
        due("evening(0, 0, 0)", vanes.evening(0, 0, 0), HeartVanes.BAD);
        due("evening(0, 61, 0)", vanes.evening(0, 61, 0), HeartVanes.BAD);
        due("evening(0, 1, 2)", vanes.evening(0, 1, 2), HeartVanes.BAD);
        due("evening(0, 1, -1)", vanes.evening(0, 1, -1), HeartVanes.BAD);
        // told out by hand: DRAW is 1 at z 0, k 0, so that PERSON 0 walks north, which it can't
        due("evening(0, 1, 0)", vanes.evening(0, 1, 0), 6 + 7 + 1 + 4 + 2 + 7);
        due("evening(0, 1, 1)", vanes.evening(0, 1, 1), 6);
        due("evening(9999, 1, 1)", vanes.evening(9999, 1, 1), 6);
        leanByDraw();
        // a MILL alone in a room of one place: it can't walk, and tells otherwise each HOUR
        HeartVanes mill = Check.laid("r1,1;p2,0,0;");
        due("a MILL, in sum", mill.evening(9999, 60, 0), 4);
        due("a MILL, how often", mill.evening(9999, 60, 1), 60);
        mill.pass(3);
        due("from now on", mill.evening(9999, 60, 0), 7);
    }

    /** The first z whose first DRAW makes 1 lean toward 0, told out here: by how much shows in which of two it is by. */
    private static void leanByDraw() {
        int tried = 0;
        for (int z = 0; z <= 9999; z++) {
            long x = 7919L * z + 1;
            int draw = (int) (x * x % 65521);
            int p = draw / 8 % 3;
            int q = draw / 64 % 3;
            if (draw % 8 != 4 || p != 1 || q != 0) {
                continue;
            }
            tried++;
            int leaning = draw / 512 % 41 - 20;
            // 1 leans toward 2, to the south, by 6 already; 0 is as far to the east
            HeartVanes vanes = Check.laid("p0,3,0;p0,0,0;p0,0,3;l1,2,0,6;");
            int due = leaning > 12 ? 2 : leaning >= 3 ? 3 : leaning > -3 ? 4 : leaning >= -12 ? 5 : 6;
            due("evening(" + z + ", 1, 0), by " + leaning, vanes.evening(z, 1, 0), due);
        }
        due("such evenings there are", tried > 100 ? 1 : 0, 1);
    }

    private static void keeping() {
        HeartVanes vanes = Check.laid("p2,0,0;p0,3,3;l1,0,0,4;");
        due("back(), nothing KEPT", vanes.back(), HeartVanes.NO);
        vanes.pass(2);
        due("keep()", vanes.keep(), 1);
        due("count(7), KEPT", vanes.count(7), 1);
        vanes.walk(0, 2);
        due("keep() again", vanes.keep(), 2);
        due("keep(), the third", vanes.keep(), HeartVanes.FULL);
        due("count(8)", vanes.count(8), 2);
        vanes.lean(1, 0, -4);
        vanes.walk(1, 3);
        vanes.pass(3);
        vanes.see(0, 1, 1);
        vanes.write('p');
        due("back()", vanes.back(), 1);
        due("back: HOURS", vanes.count(3), 2);
        due("back: the MILL", vanes.person(0, 3), 2);
        due("back: the LEANING", vanes.leaning(1, 0), 24);
        due("back: place(0, 1)", vanes.place(0, 1), 0);
        due("back: place(3, 3)", vanes.place(3, 3), 1);
        due("back: SEEN stays", vanes.count(6), 1);
        due("back: THE TEXT stays", vanes.count(9), 24);
        due("back: undo()", vanes.undo(), HeartVanes.NO);
        due("back() again", vanes.back(), 0);
        due("back: place(0, 0)", vanes.place(0, 0), 0);
        due("back: undo() again", vanes.undo(), HeartVanes.NO);
        due("back(), no more", vanes.back(), HeartVanes.NO);
        vanes.pass(1);
        due("keep() anew", vanes.keep(), 1);
        due("undo() past what was KEPT", vanes.undo(), 0);
        due("back() to it", vanes.back(), 0);
        due("HOURS as KEPT", vanes.count(3), 3);
    }

    private static void counting() {
        HeartVanes vanes = Check.laid("r8,7;p2,0,0;p0,3,3;p0,4,4;l1,0,0,4;l0,1,1,4;l2,1,0,0;");
        vanes.pass(24);
        vanes.walk(0, 1);
        vanes.see(1, 2, 3);
        vanes.see(1, 2, 3);
        vanes.see(1, 2, 3);
        vanes.keep();
        int[] counts = {8, 7, 3, 24, 2, 2, 3, 2, 1, 53};
        for (int what = 0; what < counts.length; what++) {
            due("count(" + what + ")", vanes.count(what), counts[what]);
        }
        due("count(10)", vanes.count(10), HeartVanes.BAD);
        due("count(-1)", vanes.count(-1), HeartVanes.BAD);
        due("count(most)", vanes.count(Integer.MAX_VALUE), HeartVanes.BAD);
    }

    public static void main(String[] args) {
        chances();
        evenings();
        keeping();
        counting();
        CHECK.end();
    }
}
