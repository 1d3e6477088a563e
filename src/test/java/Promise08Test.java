/** Promise 8: place. */
public final class Promise08Test extends Check {
    static void promise08_placesAreInTheRoom() {
        bounds("place(x, 0) of 9, 8", Check::busy, 0, 8, (vanes, x) -> vanes.place(x, 0));
        bounds("place(x, 7) of 9, 8", Check::busy, 0, 8, (vanes, x) -> vanes.place(x, 7));
        bounds("place(0, y) of 9, 8", Check::busy, 0, 7, (vanes, y) -> vanes.place(0, y));
        bounds("place(8, y) of 9, 8", Check::busy, 0, 7, (vanes, y) -> vanes.place(8, y));
        bounds("place(x, 1) of 3, 2", Check::two, 0, 2, (vanes, x) -> vanes.place(x, 1));
        bounds("place(2, y) of 3, 2", Check::two, 0, 1, (vanes, y) -> vanes.place(2, y));
        bounds("place(x, 0) of 1, 1", Check::alone, 0, 0, (vanes, x) -> vanes.place(x, 0));
        bounds("place(0, y) of 1, 1", Check::alone, 0, 0, (vanes, y) -> vanes.place(0, y));
    }

    static void promise08_everyRoomHasItsPlaces() {
        for (int wide = 1; wide <= 9; wide++) {
            for (int deep = 1; deep <= 9; deep++) {
                HeartVanes vanes = laid("r" + wide + "," + deep + ";p0," + (wide - 1) + "," + (deep - 1) + ";");
                for (int x = -1; x <= 9; x++) {
                    for (int y = -1; y <= 9; y++) {
                        boolean inside = x >= 0 && x < wide && y >= 0 && y < deep;
                        int due = !inside ? BAD : x == wide - 1 && y == deep - 1 ? 0 : NONE;
                        due("place(" + x + ", " + y + ") of " + wide + ", " + deep, vanes.place(x, y), due);
                    }
                }
            }
        }
    }

    static void promise08_whoIsThere() {
        HeartVanes vanes = laid("r2,5;p0,1,4;p1,0,3;");
        due("place(1, 4)", vanes.place(1, 4), 0);
        due("place(0, 3)", vanes.place(0, 3), 1);
        due("place(1, 3)", vanes.place(1, 3), NONE);
        vanes.walk(0, 0);
        due("place(1, 3), walked", vanes.place(1, 3), 0);
        due("place(1, 4), walked", vanes.place(1, 4), NONE);
        vanes.undo();
        due("place(1, 3), undone", vanes.place(1, 3), NONE);
        due("place(1, 4), undone", vanes.place(1, 4), 0);
    }

    static void promise08_itChangesNothing() {
        leaves("place(4, 3)", Check::busy, vanes -> vanes.place(4, 3), 0);
        leaves("place(4, 4)", Check::busy, vanes -> vanes.place(4, 4), NONE);
    }

    public static void main(String[] args) {
        runAll(Promise08Test.class);
    }
}
