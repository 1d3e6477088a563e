/** Promise 10: walk. */
public final class Promise10Test extends Check {
    static void promise10_sidesAre0To3() {
        bounds("walk(0, side)", Check::busy, 0, 3, (vanes, side) -> vanes.walk(0, side));
        bounds("walk(5, side)", Check::busy, 0, 3, (vanes, side) -> vanes.walk(5, side));
    }

    static void promise10_personsAreSuchAsThereAre() {
        bounds("walk(p, 2) of 6", Check::busy, 0, 5, (vanes, p) -> vanes.walk(p, 2));
        bounds("walk(p, 0) of 2", Check::two, 0, 1, (vanes, p) -> vanes.walk(p, 0));
        bounds("walk(p, 0) of 1", Check::alone, 0, 0, (vanes, p) -> vanes.walk(p, 0));
    }

    static void promise10_theAnswerIsThePlace() {
        HeartVanes vanes = laid("r9,9;p0,7,7;");
        due("east", vanes.walk(0, 1), 87);
        due("south", vanes.walk(0, 2), 88);
        due("west", vanes.walk(0, 3), 78);
        due("north", vanes.walk(0, 0), 77);
        due("X", vanes.person(0, 1), 7);
        due("Y", vanes.person(0, 2), 7);
        HeartVanes corner = laid("r9,9;p0,1,1;");
        due("west", corner.walk(0, 3), 1);
        due("north, to 0, 0", corner.walk(0, 0), 0);
        due("X", corner.person(0, 1), 0);
        due("Y", corner.person(0, 2), 0);
    }

    static void promise10_beyondTheRoomIsNo() {
        String[] places = {"1,0;", "4,1;", "1,2;", "0,1;"};
        int[] inside = {11, 31, 11, 11};
        for (int side = 0; side < 4; side++) {
            int beyond = side;
            String text = "r5,3;p0," + places[side];
            leaves("walk(0, " + side + ") in " + text, () -> laid(text), vanes -> vanes.walk(0, beyond), NO);
            HeartVanes vanes = laid(text);
            due("away from the wall", vanes.walk(0, (side + 2) % 4), inside[side]);
            dueTrue("back to the wall", vanes.walk(0, side) >= 0);
            due("beyond it", vanes.walk(0, side), NO);
        }
    }

    static void promise10_everyWallOfEveryRoom() {
        for (int wide = 1; wide <= 9; wide++) {
            for (int deep = 1; deep <= 9; deep++) {
                HeartVanes vanes = laid("r" + wide + "," + deep + ";p0,0,0;");
                due("beyond the north", vanes.walk(0, 0), NO);
                due("beyond the west", vanes.walk(0, 3), NO);
                for (int x = 1; x < wide; x++) {
                    due("to the east", vanes.walk(0, 1), 10 * x);
                }
                due("beyond the east", vanes.walk(0, 1), NO);
                for (int y = 1; y < deep; y++) {
                    due("to the south", vanes.walk(0, 2), 10 * (wide - 1) + y);
                }
                due("beyond the south", vanes.walk(0, 2), NO);
            }
        }
    }

    static void promise10_aRoomOfOnePlace() {
        for (int side = 0; side < 4; side++) {
            int asked = side;
            leaves("walk(0, " + side + ")", Check::alone, vanes -> vanes.walk(0, asked), NO);
        }
    }

    static void promise10_somebodyIsThereIsNo() {
        String text = "r3,3;p0,1,1;p0,1,0;p1,2,1;p2,1,2;p3,0,1;";
        for (int side = 0; side < 4; side++) {
            int asked = side;
            leaves("walk(0, " + side + ")", () -> laid(text), vanes -> vanes.walk(0, asked), NO);
        }
        HeartVanes vanes = laid(text);
        due("1 makes way", vanes.walk(1, 1), 20);
        due("walk(0, 0)", vanes.walk(0, 0), 10);
        due("1 can't go back", vanes.walk(1, 3), NO);
        due("4 can go to where 0 was", vanes.walk(4, 1), 11);
    }

    static void promise10_fullRoom() {
        HeartVanes vanes = laid("r2,3;p0,0,0;p0,1,0;p0,0,1;p0,1,1;p0,0,2;p0,1,2;");
        for (int p = 0; p < 6; p++) {
            for (int side = 0; side < 4; side++) {
                due("walk(" + p + ", " + side + ")", vanes.walk(p, side), NO);
            }
        }
        due("count(7)", vanes.count(7), 0);
    }

    static void promise10_badIsAheadOfNo() {
        leaves("walk(1, 0), there is no 1", Check::alone, vanes -> vanes.walk(1, 0), BAD);
        leaves("walk(0, 4), shut in", Check::alone, vanes -> vanes.walk(0, 4), BAD);
        leaves("walk(0, -1), shut in", Check::alone, vanes -> vanes.walk(0, -1), BAD);
        leaves("walk(-1, -1)", Check::alone, vanes -> vanes.walk(-1, -1), BAD);
    }

    static void promise10_aWalkIsNoHourAndTurnsNoVane() {
        HeartVanes vanes = busy();
        int told = vanes.person(0, 3);
        due("walk(0, 2)", vanes.walk(0, 2), 44);
        due("HOURS", vanes.count(3), 5);
        due("its VANE", vanes.person(0, 3), told);
        due("can be UNDONE", vanes.count(7), 5);
        due("LEANINGS", vanes.count(5), 8);
    }

    static void promise10_onlyOneWalks() {
        HeartVanes vanes = new HeartVanes();
        HeartVanes fresh = new HeartVanes();
        due("walk(2, 3)", vanes.walk(2, 3), 22);
        for (int p = 0; p < 6; p++) {
            due("X of " + p, vanes.person(p, 1), fresh.person(p, 1) - (p == 2 ? 1 : 0));
            due("Y of " + p, vanes.person(p, 2), fresh.person(p, 2));
        }
    }

    public static void main(String[] args) {
        runAll(Promise10Test.class);
    }
}
