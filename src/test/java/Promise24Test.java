/** Promise 24: away. */
public final class Promise24Test extends Check {
    /** 0 leans alike toward 1, to the east, and 2, to the south; 3 is nothing to it. */
    private static HeartVanes corner() {
        return laid("p0,0,0;p0,3,0;p0,0,3;p0,5,5;l0,1,0,5;l0,2,0,5;");
    }

    /** 0 leans toward five others, all to the east. */
    private static HeartVanes row() {
        return laid("p0,0,0;p0,1,0;p0,2,0;p0,3,0;p0,4,0;p0,5,0;l0,1,0,1;l0,2,0,1;l0,3,0,1;l0,4,0,1;l0,5,0,1;");
    }

    private static void dueChance(HeartVanes vanes, int p, int w, int x, int above, int below) {
        String call = "away(" + p + ", " + w + ", " + x + ", ";
        due(call + "0)", vanes.away(p, w, x, 0), above);
        due(call + "1)", vanes.away(p, w, x, 1), below);
    }

    static void promise24_personsAreSuchAsThereAre() {
        for (int part = 0; part < 2; part++) {
            int asked = part;
            bounds("away(p, 3, 5, " + part + ") of 6", Check::busy, 0, 5, (vanes, p) -> vanes.away(p, 3, 5, asked));
            bounds("away(p, 3, 5, " + part + ") of 2", Check::two, 0, 1, (vanes, p) -> vanes.away(p, 3, 5, asked));
            bounds("away(p, 3, 5, " + part + ") of 1", Check::alone, 0, 0, (vanes, p) -> vanes.away(p, 3, 5, asked));
        }
    }

    static void promise24_waysAre0To7() {
        bounds("away(0, w, 5, 0)", Check::busy, 0, 7, (vanes, w) -> vanes.away(0, w, 5, 0));
        bounds("away(0, w, 10, 1)", Check::busy, 0, 7, (vanes, w) -> vanes.away(0, w, 10, 1));
        bounds("away(0, w, 5, 0) of one alone", Check::alone, 0, 7, (vanes, w) -> vanes.away(0, w, 5, 0));
    }

    static void promise24_tenthsAre0To10() {
        bounds("away(0, 3, x, 0)", Check::busy, 0, 10, (vanes, x) -> vanes.away(0, 3, x, 0));
        bounds("away(0, 3, x, 1)", Check::busy, 0, 10, (vanes, x) -> vanes.away(0, 3, x, 1));
    }

    static void promise24_partsAre0And1() {
        bounds("away(0, 3, 5, part)", Check::busy, 0, 1, (vanes, part) -> vanes.away(0, 3, 5, part));
    }

    static void promise24_oneOtherByEachOfTenths() {
        int[][] due = {{1, 1}, {9, 10}, {4, 5}, {7, 10}, {3, 5}, {1, 2}, {2, 5}, {3, 10}, {1, 5}, {1, 10}, {0, 1}};
        HeartVanes vanes = laid("p0,0,0;p0,3,0;l0,1,0,5;");
        for (int x = 0; x <= 10; x++) {
            dueChance(vanes, 0, 2, x, due[x][0], due[x][1]);
            dueChance(vanes, 0, 6, x, 0, 1);
            dueChance(vanes, 1, 6, x, 0, 1);
        }
    }

    static void promise24_nobodyIsAwayBy0AllAreBy10() {
        HeartVanes vanes = corner();
        for (int w = 0; w < 8; w++) {
            dueChance(vanes, 0, w, 0, w == 3 ? 1 : 0, 1);
            dueChance(vanes, 0, w, 10, 0, 1);
        }
    }

    static void promise24_eachForItself() {
        HeartVanes vanes = corner();
        dueChance(vanes, 0, 3, 5, 1, 4);
        dueChance(vanes, 0, 2, 5, 1, 4);
        dueChance(vanes, 0, 4, 5, 1, 4);
        dueChance(vanes, 0, 2, 3, 21, 100);
        dueChance(vanes, 0, 3, 3, 49, 100);
        dueChance(vanes, 0, 4, 2, 4, 25);
        dueChance(vanes, 0, 3, 2, 16, 25);
        dueChance(vanes, 0, 0, 5, 0, 1);
    }

    static void promise24_eachOtherThanThePerson() {
        int[][] due = {{1, 1}, {9, 10}, {4, 5}, {7, 10}, {3, 5}, {1, 2}, {2, 5}, {3, 10}, {1, 5}, {1, 10}, {0, 1}};
        for (int a = 0; a < 6; a++) {
            HeartVanes vanes = laid("p0,0,0;p0,1,0;p0,2,0;p0,3,0;p0,4,0;p0,5,0;");
            for (int b = 0; b < 6; b++) {
                if (a == b) {
                    continue;
                }
                vanes.lean(a, b, 20);
                int x = (a + b) % 11;
                dueChance(vanes, a, b > a ? 2 : 6, x, due[x][0], due[x][1]);
                dueChance(vanes, a, b > a ? 2 : 6, 3, 7, 10);
                vanes.undo();
            }
        }
    }

    static void promise24_withoutDraftTheChanceIs0() {
        dueChance(corner(), 3, 7, 5, 0, 1);
        for (int x = 0; x <= 10; x++) {
            for (int w = 0; w < 8; w++) {
                dueChance(alone(), 0, w, x, 0, 1);
            }
        }
        // both at once are no DRAFT
        HeartVanes between = laid("r9,9;p0,4,4;p0,2,4;p0,6,4;l0,1,0,5;l0,2,0,5;");
        dueChance(between, 0, 6, 5, 1, 4);
        dueChance(between, 0, 2, 5, 1, 4);
        dueChance(between, 0, 2, 0, 0, 1);
    }

    static void promise24_fiveOthersInLowestTerms() {
        HeartVanes vanes = row();
        dueChance(vanes, 0, 2, 0, 1, 1);
        dueChance(vanes, 0, 2, 1, 99999, 100000);
        dueChance(vanes, 0, 2, 5, 31, 32);
        dueChance(vanes, 0, 2, 9, 40951, 100000);
        dueChance(vanes, 0, 2, 10, 0, 1);
        // 1 less 0.8, 0.6, 0.4 and 0.2 to the power of 5
        dueChance(vanes, 0, 2, 8, 2101, 3125);
        dueChance(vanes, 0, 2, 6, 2882, 3125);
        dueChance(vanes, 0, 2, 4, 3093, 3125);
        dueChance(vanes, 0, 2, 2, 3124, 3125);
    }

    static void promise24_12AwayIsNothingEitherWay() {
        dueChance(laid("r9,9;p0,0,0;p0,8,4;l0,1,0,20;"), 0, 3, 5, 0, 1);
        dueChance(laid("r9,9;p0,0,0;p0,8,3;l0,1,0,20;"), 0, 2, 5, 1, 2);
    }

    static void promise24_fartherThan12IsNothingEither() {
        // 13, 16 away; the one at 1, 0 is all that counts
        HeartVanes vanes = laid("r9,9;p0,0,0;p0,8,5;p0,8,8;p0,1,0;l0,1,0,20;l0,2,1,20;l0,3,0,1;");
        for (int w = 0; w < 8; w++) {
            dueChance(vanes, 0, w, 0, w == 2 ? 1 : 0, 1);
            dueChance(vanes, 0, w, 3, w == 2 ? 7 : 0, w == 2 ? 10 : 1);
            dueChance(vanes, 0, w, 10, 0, 1);
        }
    }

    static void promise24_itIsByHowItStandsNow() {
        HeartVanes vanes = laid("r9,9;p0,0,0;p0,3,0;l0,1,0,5;");
        dueChance(vanes, 0, 2, 5, 1, 2);
        vanes.lean(0, 1, -5);
        dueChance(vanes, 0, 2, 5, 0, 1);
        dueChance(vanes, 0, 6, 5, 1, 2);
        vanes.walk(1, 2);
        vanes.walk(1, 2);
        dueChance(vanes, 0, 7, 5, 1, 2);
        vanes.undo();
        vanes.undo();
        vanes.undo();
        dueChance(vanes, 0, 2, 5, 1, 2);
    }

    static void promise24_itChangesNothing() {
        leaves("away(0, 6, 5, 0)", Check::busy, vanes -> vanes.away(0, 6, 5, 0), 1);
        leaves("away(0, 6, 5, 1)", Check::busy, vanes -> vanes.away(0, 6, 5, 1), 2);
        leaves("away(0, 7, 5, 1)", Check::busy, vanes -> vanes.away(0, 7, 5, 1), 4);
    }

    public static void main(String[] args) {
        runAll(Promise24Test.class);
    }
}
