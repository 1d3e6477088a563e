import java.math.BigInteger;

/** Promise 25: evening. */
public final class Promise25Test extends Check {
    private static final int MODULUS = 65521;

    private static int draw(int z, int k) {
        BigInteger x = BigInteger.valueOf(7919).multiply(BigInteger.valueOf(z))
                .add(BigInteger.valueOf(6151).multiply(BigInteger.valueOf(k))).add(BigInteger.ONE);
        return x.multiply(x).mod(BigInteger.valueOf(MODULUS)).intValue();
    }

    /** An evening told out by acts of the face: in sum, how often. */
    private static int[] toldOut(HeartVanes vanes, int z, int n) {
        int many = vanes.count(2);
        int[] told = new int[many];
        int often = 0;
        for (int p = 0; p < many; p++) {
            told[p] = vanes.person(p, 3);
        }
        for (int k = 0; k < n; k++) {
            act(vanes, many, draw(z, k));
            vanes.pass(1);
            for (int p = 0; p < many; p++) {
                int now = vanes.person(p, 3);
                often += now == told[p] ? 0 : 1;
                told[p] = now;
            }
        }
        int sum = 0;
        for (int way : told) {
            sum += way;
        }
        return new int[] {sum, often};
    }

    private static void act(HeartVanes vanes, int many, int draw) {
        int p = draw / 8 % many;
        int q = draw / 64 % many;
        if (draw % 8 <= 3) {
            vanes.walk(p, draw / 64 % 4);
        } else if (draw % 8 == 4 && p != q) {
            vanes.lean(p, q, draw / 512 % 41 - 20);
        }
    }

    private static void dueEvening(Made from, int z, int n) {
        int[] due = toldOut(from.room(), z, n);
        due("evening(" + z + ", " + n + ", 0)", from.room().evening(z, n, 0), due[0]);
        due("evening(" + z + ", " + n + ", 1)", from.room().evening(z, n, 1), due[1]);
    }

    static void promise25_zIs0To9999() {
        bounds("evening(z, 1, 0)", Check::busy, 0, 9999, (vanes, z) -> vanes.evening(z, 1, 0));
        bounds("evening(z, 60, 1)", Check::busy, 0, 9999, (vanes, z) -> vanes.evening(z, 60, 1));
    }

    static void promise25_hoursAre1To60() {
        bounds("evening(0, n, 0)", Check::busy, 1, 60, (vanes, n) -> vanes.evening(0, n, 0));
        bounds("evening(9999, n, 1)", Check::busy, 1, 60, (vanes, n) -> vanes.evening(9999, n, 1));
    }

    static void promise25_whatIs0Or1() {
        bounds("evening(0, 1, what)", Check::busy, 0, 1, (vanes, what) -> vanes.evening(0, 1, what));
        bounds("evening(9999, 60, what)", Check::busy, 0, 1, (vanes, what) -> vanes.evening(9999, 60, what));
    }

    /** Told out by hand: DRAW is 1 at z 0, k 0, so that PERSON 0 walks north, which it can't. */
    static void promise25_theFirstHourByHand() {
        due("evening(0, 1, 0)", new HeartVanes().evening(0, 1, 0), 6 + 7 + 1 + 4 + 2 + 7);
        due("evening(0, 1, 1)", new HeartVanes().evening(0, 1, 1), 6);
        due("evening(5, 60, 0)", new HeartVanes().evening(5, 60, 0), 33);
        due("evening(5, 60, 1)", new HeartVanes().evening(5, 60, 1), 80);
    }

    static void promise25_theFirstDrawOfEachEvening() {
        boolean[] deeds = new boolean[8];
        for (int z = 0; z <= 9999; z++) {
            deeds[draw(z, 0) % 8] = true;
            dueEvening(HeartVanes::new, z, 1);
        }
        for (int deed = 0; deed < 8; deed++) {
            dueTrue("DRAW modulo 8 was " + deed, deeds[deed]);
        }
    }

    static void promise25_longEvenings() {
        int[] evenings = {0, 1, 2, 77, 4096, 5000, 9998, 9999};
        for (int z : evenings) {
            dueEvening(HeartVanes::new, z, 2);
            dueEvening(HeartVanes::new, z, 59);
            dueEvening(HeartVanes::new, z, 60);
            dueEvening(Check::busy, z, 40);
            dueEvening(Check::two, z, 60);
        }
    }

    static void promise25_theLowestAndTheHighestDraw() {
        int lowest = 0;
        int highest = 0;
        for (int z = 0; z <= 9999; z++) {
            for (int k = 0; k < 60; k += 59) {
                int draw = draw(z, k);
                if (draw <= 1) {
                    lowest++;
                    dueEvening(HeartVanes::new, z, k + 1);
                } else if (draw >= MODULUS - 2) {
                    highest++;
                    dueEvening(HeartVanes::new, z, k + 1);
                }
            }
        }
        dueTrue("low draws", lowest > 0);
        dueTrue("high draws", highest > 0);
    }

    /** By how much 1 leans toward 0 shows in which of two its DRAFT is by. */
    static void promise25_leaningsAreLess20To20() {
        boolean[] seen = new boolean[41];
        for (int z = 0; z <= 9999; z++) {
            int draw = draw(z, 0);
            if (draw % 8 != 4 || draw / 8 % 3 != 1 || draw / 64 % 3 != 0) {
                continue;
            }
            int leaning = draw / 512 % 41 - 20;
            seen[leaning + 20] = true;
            // 1 leans toward 2, to the south, by 6 already; 0 is as far to the east
            HeartVanes vanes = laid("p0,3,0;p0,0,0;p0,0,3;l1,2,0,6;");
            int due = leaning > 12 ? 2 : leaning >= 3 ? 3 : leaning > -3 ? 4 : leaning >= -12 ? 5 : 6;
            due("evening(" + z + ", 1, 0), by " + leaning, vanes.evening(z, 1, 0), due);
        }
        dueTrue("by -20", seen[0]);
        dueTrue("by 20", seen[40]);
    }

    static void promise25_eachIfItCanBe() {
        // one alone in one PLACE can't walk, and there is no other one
        Made plain = () -> laid("r1,1;p0,0,0;");
        for (int z = 0; z <= 9999; z += 101) {
            due("evening(" + z + ", 60, 0) of a PLAIN one alone", plain.room().evening(z, 60, 0), 0);
            due("evening(" + z + ", 60, 1) of a PLAIN one alone", plain.room().evening(z, 60, 1), 0);
        }
        // in a full ROOM nobody walks
        Made full = () -> laid("r2,3;p0,0,0;p1,1,0;p2,0,1;p3,1,1;p0,0,2;p1,1,2;l0,5,0,9;l1,4,0,9;l3,2,1,9;");
        for (int z = 0; z <= 9999; z += 101) {
            dueEvening(full, z, 40);
        }
    }

    static void promise25_howOftenAMillTurns() {
        for (int n = 1; n <= 60; n++) {
            due("in sum behind " + n, alone().evening(9999, n, 0), n % 8);
            due("how often behind " + n, alone().evening(9999, n, 1), n);
        }
    }

    static void promise25_fromNowOn() {
        HeartVanes mill = alone();
        mill.pass(3);
        due("in sum", mill.evening(9999, 60, 0), 7);
        due("how often", mill.evening(9999, 60, 1), 60);
        due("in sum, behind one HOUR", mill.evening(0, 1, 0), 4);
        mill.pass(24);
        mill.pass(4);
        due("in sum, from 7 to 0", mill.evening(0, 1, 0), 0);
    }

    static void promise25_itChangesNothing() {
        int[] evenings = {0, 3, 5, 9999};
        for (int z : evenings) {
            int[] due = toldOut(busy(), z, 40);
            leaves("evening(" + z + ", 40, 0)", Check::busy, vanes -> vanes.evening(z, 40, 0), due[0]);
            leaves("evening(" + z + ", 40, 1)", Check::busy, vanes -> vanes.evening(z, 40, 1), due[1]);
        }
    }

    static void promise25_theSameAskedTwice() {
        HeartVanes vanes = busy();
        due("in sum", vanes.evening(77, 60, 0), vanes.evening(77, 60, 0));
        due("how often", vanes.evening(77, 60, 1), vanes.evening(77, 60, 1));
    }

    public static void main(String[] args) {
        runAll(Promise25Test.class);
    }
}
