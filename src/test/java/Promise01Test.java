/** Promise 1: a new object. */
public final class Promise01Test extends Check {
    static void promise01_theRoomIsAsTold() {
        HeartVanes vanes = new HeartVanes();
        int[] counts = {7, 6, 6, 0, 6, 10, 0, 0, 0, 0};
        for (int what = 0; what < counts.length; what++) {
            due("count(" + what + ")", vanes.count(what), counts[what]);
        }
        int[][] people = {{0, 0, 0, 0}, {1, 6, 5, 0}, {2, 3, 2, 0}, {3, 5, 1, 0}, {0, 1, 4, 0}, {0, 4, 4, 0}};
        for (int p = 0; p < 6; p++) {
            for (int what = 0; what < 4; what++) {
                due("person(" + p + ", " + what + ")", vanes.person(p, what), people[p][what]);
            }
            due("who is where " + p + " stands", vanes.place(people[p][1], people[p][2]), p);
        }
    }

    static void promise01_theLeaningsAreAsTold() {
        HeartVanes vanes = new HeartVanes();
        int[][] told = {{0, 1, 5}, {0, 2, -2}, {1, 0, 9}, {1, 4, 3}, {2, 3, 7}, {3, 2, 4}, {3, 5, -6}, {4, 5, 8}, {5, 4, 2}, {5, 0, 9}};
        int[][] want = new int[6][6];
        for (int[] row : told) {
            want[row[0]][row[1]] = row[2];
        }
        for (int a = 0; a < 6; a++) {
            for (int b = 0; b < 6; b++) {
                due("leaning(" + a + ", " + b + ")", vanes.leaning(a, b), a == b ? BAD : want[a][b] + 20);
            }
        }
    }

    static void promise01_itIsThatOfTheToldText() {
        HeartVanes told = laid("r7,6;p0,0,0;p1,6,5;p2,3,2;p3,5,1;p0,1,4;p0,4,4;l0,1,0,5;l0,2,1,2;l1,0,0,9;l1,4,0,3;l2,3,0,7;"
                + "l3,2,0,4;l3,5,1,6;l4,5,0,8;l5,4,0,2;l5,0,0,9;");
        told.wipe();
        dueStandsAs("a new object", new HeartVanes(), told);
    }

    static void promise01_theTextIsEmpty() {
        due("wipe()", new HeartVanes().wipe(), 0);
        due("fault()", new HeartVanes().fault(), NONE);
        due("lay()", new HeartVanes().lay(), NO);
        due("the first letter", new HeartVanes().write('r'), 1);
    }

    static void promise01_nothingIsSeenUndoneKept() {
        HeartVanes vanes = new HeartVanes();
        due("forget()", vanes.forget(), 0);
        due("undo()", vanes.undo(), NO);
        due("back()", vanes.back(), NO);
        for (int p = 0; p < 6; p++) {
            due("kinds(" + p + ")", vanes.kinds(p), 15);
        }
    }

    static void promise01_objectsShareNothing() {
        HeartVanes first = new HeartVanes();
        HeartVanes other = busy();
        other.evening(7, 60, 0);
        dueStandsAs("an object beside a busy one", first, new HeartVanes());
        due("its lay()", first.lay(), NO);
        due("its undo()", first.undo(), NO);
        due("its back()", first.back(), NO);
    }

    static void promise01_the512thCallIsAnswered() {
        HeartVanes vanes = new HeartVanes();
        for (int i = 1; i <= 511; i++) {
            due("pass(24), " + i, vanes.pass(24), 24 * i);
        }
        due("count(3), the 512th call", vanes.count(3), 24 * 511);
    }

    public static void main(String[] args) {
        runAll(Promise01Test.class);
    }
}
