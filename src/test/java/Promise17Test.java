/** Promise 17: steps. */
public final class Promise17Test extends Check {
    private static HeartVanes middle() {
        return laid("r9,9;p0,4,4;p0,4,2;l0,1,0,5;");
    }

    /** No side but the east is open to 0, and it is of no use. */
    private static HeartVanes shut() {
        return laid("r3,1;p0,0,0;p0,2,0;l0,1,0,5;");
    }

    private static void dueSteps(HeartVanes vanes, int p, int w, int... sides) {
        String call = "steps(" + p + ", " + w + ", ";
        due(call + "-1)", vanes.steps(p, w, -1), sides.length);
        for (int k = 0; k < sides.length; k++) {
            due(call + k + ")", vanes.steps(p, w, k), sides[k]);
        }
        due(call + sides.length + "), there are not so many", vanes.steps(p, w, sides.length), NONE);
        due(call + "most)", vanes.steps(p, w, MOST), NONE);
    }

    private static void dueNoSteps(HeartVanes vanes, int p, int w) {
        int[] asked = {-1, 0, 1, 80, 81, MOST};
        for (int k : asked) {
            due("steps(" + p + ", " + w + ", " + k + ")", vanes.steps(p, w, k), NONE);
        }
    }

    static void promise17_personsAreSuchAsThereAre() {
        int[] asked = {-1, 0, MOST};
        for (int k : asked) {
            bounds("steps(p, 3, " + k + ") of 6", Check::busy, 0, 5, (vanes, p) -> vanes.steps(p, 3, k));
            bounds("steps(p, 3, " + k + ") of 2", Check::two, 0, 1, (vanes, p) -> vanes.steps(p, 3, k));
            bounds("steps(p, 3, " + k + ") of 1", Check::alone, 0, 0, (vanes, p) -> vanes.steps(p, 3, k));
        }
    }

    static void promise17_waysAre0To7() {
        bounds("steps(0, w, -1)", Check::busy, 0, 7, (vanes, w) -> vanes.steps(0, w, -1));
        bounds("steps(0, w, 0)", Check::busy, 0, 7, (vanes, w) -> vanes.steps(0, w, 0));
        bounds("steps(0, w, -1), no DRAFT", Check::alone, 0, 7, (vanes, w) -> vanes.steps(0, w, -1));
    }

    static void promise17_kBelowLess1IsBad() {
        int[] bad = {-2, -3, -4, -100, LEAST};
        for (int k : bad) {
            leaves("steps(0, 0, " + k + ")", Check::busy, vanes -> vanes.steps(0, 0, k), BAD);
            leaves("steps(0, 0, " + k + "), none", Check::alone, vanes -> vanes.steps(0, 0, k), BAD);
        }
        dueTrue("steps(0, 0, -1)", middle().steps(0, 0, -1) != BAD);
    }

    static void promise17_badIsAheadOfNone() {
        leaves("steps(2, 6, -1), none", Promise17Test::shut, vanes -> vanes.steps(2, 6, -1), BAD);
        leaves("steps(0, 8, -1), none", Promise17Test::shut, vanes -> vanes.steps(0, 8, -1), BAD);
        leaves("steps(0, 6, -2), none", Promise17Test::shut, vanes -> vanes.steps(0, 6, -2), BAD);
        leaves("steps(2, 6, most), none", Promise17Test::shut, vanes -> vanes.steps(2, 6, MOST), BAD);
    }

    static void promise17_noStepsIfTheDraftIsSo() {
        dueSteps(middle(), 0, 0);
        dueSteps(shut(), 0, 2);
    }

    static void promise17_noneIfThereAreNone() {
        dueNoSteps(shut(), 0, 6);
        for (int w = 0; w < 8; w++) {
            dueNoSteps(alone(), 0, w);
            dueNoSteps(middle(), 1, w);
        }
    }

    static void promise17_theFewest() {
        dueSteps(middle(), 0, 1, 3);
        dueSteps(middle(), 0, 7, 1);
    }

    static void promise17_ofSeveralTheFirstBySides() {
        // to the east of the other one it is west: at 5, 2, by north and east only, the north first where it can be
        dueSteps(middle(), 0, 6, 0, 1, 0);
        dueSteps(middle(), 0, 2, 0, 3, 0);
        dueSteps(middle(), 0, 4, 0, 1, 0, 0, 3);
        // all eight ways round one in the middle
        HeartVanes corner = laid("r9,9;p0,0,0;p0,4,4;l0,1,0,5;");
        dueSteps(corner, 0, 3);
        dueSteps(corner, 0, 4, 1, 1, 1);
        dueSteps(corner, 0, 2, 2, 2, 2);
    }

    static void promise17_everyLengthUpTo9() {
        // north of 0 at the east end alone: the walls of a ROOM of 2 deep
        HeartVanes vanes = laid("r9,2;p0,0,1;p0,8,0;l0,1,0,5;");
        dueSteps(vanes, 0, 0, 1, 1, 1, 1, 1, 1, 1, 1);
        dueSteps(laid("r9,2;p0,0,0;p0,8,0;l0,1,0,5;"), 0, 0, 1, 1, 1, 1, 1, 1, 1, 2, 1);
        for (int x = 0; x < 9; x++) {
            int[] sides = new int[8 - x];
            java.util.Arrays.fill(sides, 1);
            dueSteps(laid("r9,2;p0," + x + ",1;p0,8,0;l0,1,0,5;"), 0, 0, sides);
        }
    }

    static void promise17_nobodyWalksThroughAnother() {
        HeartVanes wall = laid("r3,3;p0,0,1;p0,1,1;p0,0,0;l0,1,0,5;");
        dueSteps(wall, 0, 2);
        dueSteps(wall, 0, 6, 2, 1, 1, 0);
        HeartVanes maze = laid("r5,3;p0,0,0;p0,1,0;p0,1,1;p0,3,1;p0,3,2;l0,4,0,5;");
        dueSteps(maze, 0, 6, 2, 2, 1, 1, 0, 0, 1, 1, 2, 2);
        dueNoSteps(laid("r5,3;p0,0,0;p0,1,0;p0,1,1;p0,1,2;p0,3,2;l0,4,0,5;"), 0, 6);
    }

    static void promise17_toEachCornerAndThroughIt() {
        // to the north-west, north-east, south-west and south-east end of a ROOM of 2 wide or 2 deep
        dueSteps(laid("r4,2;p0,3,1;p0,0,1;l0,1,0,5;"), 0, 4, 0, 3, 3, 3);
        dueSteps(laid("r4,2;p0,0,1;p0,3,1;l0,1,0,5;"), 0, 4, 0, 1, 1, 1);
        dueSteps(laid("r4,2;p0,3,0;p0,0,0;l0,1,0,5;"), 0, 0, 2, 3, 3, 3);
        dueSteps(laid("r4,2;p0,0,0;p0,3,0;l0,1,0,5;"), 0, 0, 1, 1, 2, 1);
        dueSteps(laid("r9,9;p0,8,7;p0,7,8;l0,1,0,5;"), 0, 6, 2);
        // round by 0, 0, since nothing else is open
        dueSteps(laid("r2,3;p0,0,2;p0,1,2;p0,1,1;l0,2,0,5;"), 0, 4, 0, 0, 1);
    }

    static void promise17_whatCantBeReachedDoesNotCount() {
        // from all of the east the DRAFT toward 4 is west; the west of the ROOM, where it would be another one, is shut off
        HeartVanes vanes = laid("r5,3;p0,4,2;p0,3,0;p0,3,1;p0,3,2;p0,1,1;l0,4,0,5;");
        for (int w = 0; w < 8; w++) {
            if (w != 6) {
                dueNoSteps(vanes, 0, w);
            }
        }
        dueSteps(vanes, 0, 6);
        // one of the wall makes way
        vanes.walk(3, 3);
        dueSteps(vanes, 0, 7, 3);
        dueNoSteps(vanes, 0, 2);
    }

    static void promise17_ofItAlone() {
        // the other one would have to walk
        dueNoSteps(laid("r3,1;p0,0,0;p0,1,0;l0,1,0,5;"), 0, 6);
        dueSteps(laid("r3,2;p0,0,0;p0,1,0;l0,1,0,5;"), 0, 6, 2, 1, 1, 0);
    }

    static void promise17_12AwayIsNoDraft() {
        // 0 has to come nearer by one to feel anything
        HeartVanes vanes = laid("r9,9;p0,0,0;p0,8,4;l0,1,0,5;");
        dueSteps(vanes, 0, 3, 1);
        dueSteps(vanes, 0, 2, 2);
    }

    static void promise17_fartherThan12IsNoDraftEither() {
        // 16 away: 5 walks nearer it is felt, as far south as east by then or not; never behind it
        HeartVanes vanes = laid("r9,9;p0,0,0;p0,8,8;l0,1,0,5;");
        dueSteps(vanes, 0, 3, 1, 1, 1, 1, 2);
        dueSteps(vanes, 0, 4, 1, 1, 1, 1, 1);
        dueSteps(vanes, 0, 2, 2, 2, 2, 2, 2);
        dueNoSteps(vanes, 0, 7);
        // leaning away, the ways across from these
        vanes.lean(0, 1, -5);
        dueSteps(vanes, 0, 7, 1, 1, 1, 1, 2);
        dueSteps(vanes, 0, 0, 1, 1, 1, 1, 1);
        dueNoSteps(vanes, 0, 3);
    }

    static void promise17_awayFromOneToo() {
        HeartVanes vanes = laid("r9,9;p0,4,4;p0,4,2;l0,1,1,5;");
        dueSteps(vanes, 0, 4);
        dueSteps(vanes, 0, 5, 3);
        dueSteps(vanes, 0, 3, 1);
    }

    static void promise17_itIsByHowItStandsNow() {
        HeartVanes vanes = middle();
        vanes.walk(0, 1);
        dueSteps(vanes, 0, 7);
        // one to the south is more than twice as far as to the side, and ahead of one to the west
        dueSteps(vanes, 0, 0, 2);
        vanes.lean(0, 1, -5);
        dueSteps(vanes, 0, 3);
        vanes.walk(1, 0);
        vanes.undo();
        vanes.undo();
        vanes.undo();
        dueSteps(vanes, 0, 0);
        dueSteps(vanes, 0, 7, 1);
    }

    static void promise17_noneBehindStepsThatThereWere() {
        HeartVanes vanes = laid("r3,2;p0,0,0;p0,1,0;l0,1,0,5;");
        dueSteps(vanes, 0, 6, 2, 1, 1, 0);
        vanes.lean(0, 1, 0);
        for (int w = 0; w < 8; w++) {
            dueNoSteps(vanes, 0, w);
        }
        vanes.lean(0, 1, 5);
        dueSteps(vanes, 0, 6, 2, 1, 1, 0);
        dueSteps(vanes, 0, 2);
    }

    static void promise17_itChangesNothing() {
        leaves("steps(0, 6, -1)", Promise17Test::middle, vanes -> vanes.steps(0, 6, -1), 3);
        leaves("steps(0, 6, 1)", Promise17Test::middle, vanes -> vanes.steps(0, 6, 1), 1);
        leaves("steps(0, 6, 3)", Promise17Test::middle, vanes -> vanes.steps(0, 6, 3), NONE);
        leaves("steps(0, 6, -1), none", Promise17Test::shut, vanes -> vanes.steps(0, 6, -1), NONE);
        leaves("steps(1, 3, -1)", Check::busy, vanes -> vanes.steps(1, 3, -1), 0);
    }

    public static void main(String[] args) {
        runAll(Promise17Test.class);
    }
}
