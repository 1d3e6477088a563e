/** Promise 13: toward. */
public final class Promise13Test extends Check {
    static void promise13_personsAreSuchAsThereAre() {
        bounds("toward(p) of 6", Check::busy, 0, 5, HeartVanes::toward);
        bounds("toward(p) of 2", Check::two, 0, 1, HeartVanes::toward);
        bounds("toward(p) of 1", Check::alone, 0, 0, HeartVanes::toward);
    }

    static void promise13_nobodyIsNoBit() {
        leaves("toward(0) of one alone", Check::alone, vanes -> vanes.toward(0), 0);
        due("toward(0), all to the south", laid("p0,0,0;p0,0,1;p0,0,2;").toward(0), 0);
    }

    static void promise13_allOthersAreAllBits() {
        HeartVanes vanes = laid("p0,3,5;p0,3,4;p0,3,3;p0,3,2;p0,3,1;p0,3,0;");
        for (int p = 0; p < 6; p++) {
            due("toward(" + p + ")", vanes.toward(p), 63 & -(2 << p));
        }
    }

    static void promise13_eachWay() {
        int[][] next = {{3, 2}, {4, 2}, {4, 3}, {4, 4}, {3, 4}, {2, 4}, {2, 3}, {2, 2}};
        for (int w = 0; w < 8; w++) {
            HeartVanes vanes = laid("p2,3,3;p0," + next[w][0] + "," + next[w][1] + ";");
            for (int told = 0; told < 8; told++) {
                due("one to " + w + ", told " + told, vanes.toward(0), told == w ? 2 : 0);
                vanes.pass(1);
            }
        }
    }

    static void promise13_moreThanTwiceIsStraightTwiceIsBetween() {
        // from the middle: 1 by 1, 3; 2 by 1, 2; 3 by 2, 1; 4 by 3, 1; all to the north and east
        HeartVanes vanes = laid("r9,9;p2,4,4;p0,5,1;p0,5,2;p0,6,3;p0,7,3;");
        int[] due = {2, 4 | 8, 16, 0, 0, 0, 0, 0};
        for (int told = 0; told < 8; told++) {
            due("toward(0), told " + told, vanes.toward(0), due[told]);
            vanes.pass(1);
        }
    }

    static void promise13_howFarDoesNotCountNorLeanings() {
        HeartVanes vanes = laid("r9,9;p2,0,8;p0,0,0;p0,8,0;l0,1,1,20;");
        due("toward(0), 8 to the north", vanes.toward(0), 2);
        vanes.pass(1);
        due("toward(0), 16 away", vanes.toward(0), 4);
    }

    static void promise13_itIsByTheVaneNotTheDraft() {
        HeartVanes vanes = laid("p0,3,3;p0,3,0;p0,5,3;l0,2,0,5;");
        due("ahead of the HOUR", vanes.toward(0), 2);
        vanes.pass(1);
        due("behind it", vanes.toward(0), 4);
    }

    static void promise13_itChangesNothing() {
        // 0 tells west from 4, 3 (5 is to its east, 1 to its north-west)
        leaves("toward(0)", Check::busy, vanes -> vanes.toward(0), 0);
        // 1 tells south-east from 0, 0: 0 at 4, 3 and 2 at 8, 7
        leaves("toward(1)", Check::busy, vanes -> vanes.toward(1), 1 | 4);
    }

    public static void main(String[] args) {
        runAll(Promise13Test.class);
    }
}
