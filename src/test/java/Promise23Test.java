/** Promise 23: loves. */
public final class Promise23Test extends Check {
    static void promise23_personsAreSuchAsThereAre() {
        bounds("loves(p, 3) of 6", Check::busy, 0, 5, (vanes, p) -> vanes.loves(p, 3));
        bounds("loves(p, 3) of 2", Check::two, 0, 1, (vanes, p) -> vanes.loves(p, 3));
        bounds("loves(p, 3) of 1", Check::alone, 0, 0, (vanes, p) -> vanes.loves(p, 3));
    }

    static void promise23_waysAre0To7() {
        bounds("loves(0, w)", Check::busy, 0, 7, (vanes, w) -> vanes.loves(0, w));
        bounds("loves(0, w) of one alone", Check::alone, 0, 7, (vanes, w) -> vanes.loves(0, w));
    }

    static void promise23_nobodyIsNoBit() {
        for (int w = 0; w < 8; w++) {
            int asked = w;
            leaves("loves(0, " + w + ") of one alone", Check::alone, vanes -> vanes.loves(0, asked), 0);
        }
    }

    static void promise23_allOthersAreAllBits() {
        HeartVanes vanes = laid("p0,3,5;p0,3,4;p0,3,3;p0,3,2;p0,3,1;p0,3,0;");
        for (int p = 0; p < 6; p++) {
            due("loves(" + p + ", 0)", vanes.loves(p, 0), 63 & -(2 << p));
            due("loves(" + p + ", 4)", vanes.loves(p, 4), (1 << p) - 1);
            due("loves(" + p + ", 2)", vanes.loves(p, 2), 0);
        }
    }

    static void promise23_11AwayIsFelt12IsNot() {
        HeartVanes vanes = laid("r9,9;p0,0,0;p0,8,4;p0,8,3;p0,3,3;p0,4,7;p0,4,8;");
        due("loves(0, 3), 4, 8 is 12 away", vanes.loves(0, 3), 8 | 16);
        due("loves(0, 2), 8, 4 is 12 away", vanes.loves(0, 2), 4);
        due("loves(1, 7), 12 away", vanes.loves(1, 7) & 1, 0);
        due("loves(2, 6), 11 away", vanes.loves(2, 6) & 1, 1);
        due("loves(4, 7), 11 away", vanes.loves(4, 7) & 1, 1);
        due("loves(5, 7), 12 away", vanes.loves(5, 7) & 1, 0);
    }

    static void promise23_fartherThan12IsNotFeltEither() {
        // 13 to 16 away
        HeartVanes vanes = laid("r9,9;p0,0,0;p0,8,5;p0,6,8;p0,8,7;p0,8,8;");
        for (int w = 0; w < 8; w++) {
            due("loves(0, " + w + ")", vanes.loves(0, w), 0);
            for (int p = 1; p < 5; p++) {
                due("0 is not in loves(" + p + ", " + w + ")", vanes.loves(p, w) & 1, 0);
            }
        }
    }

    static void promise23_moreThanTwiceIsStraightTwiceIsBetween() {
        HeartVanes vanes = laid("r9,9;p0,4,4;p0,5,1;p0,5,2;p0,6,3;p0,7,3;");
        int[] due = {2, 4 | 8, 16, 0, 0, 0, 0, 0};
        for (int w = 0; w < 8; w++) {
            due("loves(0, " + w + ")", vanes.loves(0, w), due[w]);
        }
    }

    static void promise23_byThatOneAloneHoweverItLeans() {
        HeartVanes vanes = laid("r9,9;p0,4,4;p0,4,0;p0,8,4;l0,1,1,20;l0,2,0,20;");
        int[] leanings = {-20, -1, 0, 1, 20};
        for (int l : leanings) {
            vanes.lean(0, 1, l);
            due("loves(0, 0), leaning by " + l, vanes.loves(0, 0), 2);
            due("loves(0, 2), leaning by " + l, vanes.loves(0, 2), 4);
            due("loves(0, 4), leaning by " + l, vanes.loves(0, 4), 0);
            due("its LEANING as before", vanes.leaning(0, 1), l + 20);
        }
    }

    static void promise23_itIsByWhereTheyStandNow() {
        HeartVanes vanes = laid("r9,9;p0,4,4;p0,4,3;");
        due("loves(0, 0)", vanes.loves(0, 0), 2);
        vanes.walk(1, 1);
        due("loves(0, 0), walked", vanes.loves(0, 0), 0);
        due("loves(0, 1), walked", vanes.loves(0, 1), 2);
    }

    static void promise23_itChangesNothing() {
        // from 4, 3: 1 north-west, 2 south-east, 3 north, 4 south-west, 5 east
        int[] due = {8, 0, 32, 4, 0, 16, 0, 2};
        for (int w = 0; w < 8; w++) {
            int asked = w;
            leaves("loves(0, " + w + ")", Check::busy, vanes -> vanes.loves(0, asked), due[w]);
        }
    }

    public static void main(String[] args) {
        runAll(Promise23Test.class);
    }
}
