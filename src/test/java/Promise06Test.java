/** Promise 6: person, with what a WAY, a DRAFT and FEELING are. */
public final class Promise06Test extends Check {
    static void promise06_whatIs0To6() {
        bounds("person(0, what)", Check::busy, 0, 6, (vanes, what) -> vanes.person(0, what));
        bounds("person(5, what)", Check::busy, 0, 6, (vanes, what) -> vanes.person(5, what));
    }

    static void promise06_personsAreSuchAsThereAre() {
        for (int what = 0; what <= 6; what++) {
            int asked = what;
            bounds("person(p, " + what + ") of 6", Check::busy, 0, 5, (vanes, p) -> vanes.person(p, asked));
            bounds("person(p, " + what + ") of 2", Check::two, 0, 1, (vanes, p) -> vanes.person(p, asked));
            bounds("person(p, " + what + ") of 1", Check::alone, 0, 0, (vanes, p) -> vanes.person(p, asked));
        }
    }

    static void promise06_aPersonOfEachKindAtEachCorner() {
        HeartVanes vanes = laid("r9,9;p3,0,0;p2,8,0;p1,0,8;p0,8,8;");
        int[][] due = {{3, 0, 0}, {2, 8, 0}, {1, 0, 8}, {0, 8, 8}};
        for (int p = 0; p < 4; p++) {
            for (int what = 0; what < 3; what++) {
                due("person(" + p + ", " + what + ")", vanes.person(p, what), due[p][what]);
            }
            due("a VANE tells at first", vanes.person(p, 3), 0);
        }
    }

    private static void dueFeels(String text, int east, int south) {
        HeartVanes vanes = laid(text);
        due("to the east, of " + text, vanes.person(0, 5), 10000 + east);
        due("to the south, of " + text, vanes.person(0, 6), 10000 + south);
        if (east == 0 && south == 0) {
            due("DRAFT of " + text, vanes.person(0, 4), NONE);
        } else {
            dueTrue("a DRAFT of " + text, vanes.person(0, 4) >= 0);
        }
    }

    static void promise06_11AwayIsFelt12IsNot() {
        dueFeels("r9,9;p0,0,0;p0,8,3;l0,1,0,20;", 20 * 8, 20 * 3);
        dueFeels("r9,9;p0,0,0;p0,8,4;l0,1,0,20;", 0, 0);
        dueFeels("r9,9;p0,0,0;p0,8,5;l0,1,0,20;", 0, 0);
        dueFeels("r9,9;p0,0,0;p0,8,8;l0,1,0,20;", 0, 0);
        dueFeels("r9,9;p0,8,8;p0,4,1;l0,1,1,20;", 20 * 4, 20 * 7);
        dueFeels("r9,9;p0,8,8;p0,4,0;l0,1,1,20;", 0, 0);
        dueFeels("r9,9;p0,8,8;p0,3,1;l0,1,1,20;", 0, 0);
        dueFeels("r9,9;p0,0,0;p0,0,1;l0,1,0,1;", 0, 11);
    }

    static void promise06_eachPlaceFromACornerAndTheMiddle() {
        int[][] own = {{0, 0}, {8, 0}, {4, 4}};
        int[] leanings = {20, -20, 1, -1, 0};
        for (int[] me : own) {
            for (int place = 0; place < 81; place++) {
                int east = place / 9 - me[0];
                int south = place % 9 - me[1];
                if (east == 0 && south == 0) {
                    continue;
                }
                int nearness = Math.max(0, 12 - Math.abs(east) - Math.abs(south));
                int l = leanings[place % 5];
                dueFeels("r9,9;p0," + me[0] + "," + me[1] + ";p0," + place / 9 + "," + place % 9
                        + ";l0,1," + (l < 0 ? 1 : 0) + "," + Math.abs(l) + ";", l * nearness * east, l * nearness * south);
            }
        }
    }

    static void promise06_feelingsAreInSumOverAll() {
        dueFeels("r9,9;p0,0,0;p0,6,0;p0,5,0;p0,7,0;p0,5,1;p0,6,1;l0,1,0,20;l0,2,0,20;l0,3,0,20;l0,4,0,20;l0,5,0,20;",
                20 * (36 + 35 + 35 + 30 + 30), 20 * (6 + 5));
        dueFeels("r9,9;p0,0,0;p0,6,0;p0,5,0;p0,7,0;p0,5,1;p0,6,1;l0,1,1,20;l0,2,1,20;l0,3,1,20;l0,4,1,20;l0,5,1,20;",
                -20 * (36 + 35 + 35 + 30 + 30), -20 * (6 + 5));
        dueFeels("r9,9;p0,0,0;p0,3,0;p0,0,2;l0,1,0,4;l0,2,1,3;", 4 * 9 * 3, -3 * 10 * 2);
    }

    static void promise06_noDraftIfWhatItFeelsIsNothing() {
        dueFeels("r9,9;p0,4,4;", 0, 0);
        dueFeels("r9,9;p0,4,4;p0,3,3;", 0, 0);
        dueFeels("r9,9;p0,4,4;p0,3,3;l1,0,0,20;", 0, 0);
        dueFeels("r9,9;p0,4,4;p0,2,4;p0,6,4;l0,1,0,5;l0,2,0,5;", 0, 0);
        dueFeels("r9,9;p0,4,4;p0,2,4;p0,6,4;l0,1,0,5;l0,2,0,6;", 20, 0);
        dueFeels("r9,9;p0,4,4;p0,2,2;p0,6,6;l0,1,1,7;l0,2,1,7;", 0, 0);
        // 3 away to the east by 9 times 3, 3 nearer on the same side: 20 by 27 and 27 by 20
        dueFeels("r9,9;p0,4,4;p0,7,4;p0,6,4;l0,1,0,20;l0,2,1,20;", 20 * 27 - 20 * 20, 0);
        dueFeels("r9,9;p0,4,4;p0,7,4;p0,5,4;l0,1,0,11;l0,2,1,20;", 11 * 27 - 20 * 11, 0);
    }

    /** The DRAFT of one who leans toward another is the WAY to it. */
    static void promise06_moreThanTwiceIsStraightTwiceIsBetween() {
        int[][] offsets = {
            {0, -1, 0}, {1, -3, 0}, {1, -2, 1}, {1, -1, 1}, {2, -1, 1}, {3, -1, 2}, {3, 0, 2}, {3, 1, 2},
            {2, 1, 3}, {1, 1, 3}, {1, 2, 3}, {1, 3, 4}, {0, 3, 4}, {-1, 3, 4}, {-1, 2, 5}, {-1, 1, 5}, {-2, 1, 5}, {-3, 1, 6},
            {-1, 0, 6}, {-3, -1, 6}, {-2, -1, 7}, {-1, -1, 7}, {-1, -2, 7}, {-1, -3, 0},
            {4, 2, 3}, {4, 1, 2}, {2, 4, 3}, {1, 4, 4}, {-4, 2, 5}, {-4, 1, 6}, {-2, 4, 5}, {-1, 4, 4},
            {-4, -2, 7}, {-4, -1, 6}, {-2, -4, 7}, {-1, -4, 0}, {4, -2, 1}, {4, -1, 2}, {2, -4, 1}, {1, -4, 0}};
        for (int[] offset : offsets) {
            String text = "r9,9;p0,4,4;p0," + (4 + offset[0]) + "," + (4 + offset[1]) + ";l0,1,";
            due("DRAFT toward, in " + text, laid(text + "0,3;").person(0, 4), offset[2]);
            due("DRAFT away, in " + text, laid(text + "1,3;").person(0, 4), (offset[2] + 4) % 8);
        }
    }

    /** 1 is 2 to the east, 2 is 2 to the south: 20 by each LEANING of 1. */
    static void promise06_twiceByWhatIsFelt() {
        HeartVanes vanes = laid("p0,0,0;p0,2,0;p0,0,2;");
        int[][] rows = {
            {20, 10, 3}, {20, 9, 2}, {19, 10, 3}, {20, 11, 3}, {10, 20, 3}, {9, 20, 4}, {2, 1, 3}, {3, 1, 2}, {1, 2, 3}, {1, 3, 4},
            {20, -10, 1}, {20, -9, 2}, {10, -20, 1}, {9, -20, 0}, {-20, 10, 5}, {-20, 9, 6}, {-10, 20, 5}, {-9, 20, 4},
            {-20, -10, 7}, {-20, -9, 6}, {-10, -20, 7}, {-9, -20, 0}, {1, 0, 2}, {0, 1, 4}, {-1, 0, 6}, {0, -1, 0}, {0, 0, NONE},
            {1, 1, 3}, {1, -1, 1}, {-1, 1, 5}, {-1, -1, 7}};
        for (int[] row : rows) {
            vanes.lean(0, 1, row[0]);
            vanes.lean(0, 2, row[1]);
            due("DRAFT by " + row[0] + ", " + row[1], vanes.person(0, 4), row[2]);
        }
    }

    static void promise06_aDraftIsOfEachKind() {
        for (int kind = 0; kind < 4; kind++) {
            HeartVanes vanes = laid("p" + kind + ",0,0;p0,3,3;l0,1,0,5;");
            due("DRAFT of KIND " + kind, vanes.person(0, 4), 3);
            due("its VANE tells", vanes.person(0, 3), 0);
        }
    }

    static void promise06_badIsAheadOfNone() {
        leaves("person(1, 4) of 1, who has no DRAFT", Check::alone, vanes -> vanes.person(1, 4), BAD);
        leaves("person(0, 4)", Check::alone, vanes -> vanes.person(0, 4), NONE);
    }

    static void promise06_itChangesNothing() {
        for (int what = 0; what <= 6; what++) {
            int asked = what;
            leaves("person(1, " + what + ")", Check::busy, vanes -> vanes.person(1, asked), new int[] {1, 0, 0, 3, 3, 10060, 10045}[what]);
        }
    }

    public static void main(String[] args) {
        runAll(Promise06Test.class);
    }
}
