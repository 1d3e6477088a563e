/** Promise 22: kinds. */
public final class Promise22Test extends Check {
    private static final int PLAIN = 1, STIFF = 2, MILL = 4, SHAM = 8, ALL = 15;

    /** The DRAFT of 0 is 3: behind one HOUR PLAIN tells 3, STIFF 1, MILL 1, SHAM 7. */
    private static HeartVanes southEast(int kind) {
        return laid("p" + kind + ",0,0;p2,3,3;l0,1,0,5;");
    }

    static void promise22_personsAreSuchAsThereAre() {
        bounds("kinds(p) of 6", Check::busy, 0, 5, HeartVanes::kinds);
        bounds("kinds(p) of 2", Check::two, 0, 1, HeartVanes::kinds);
        bounds("kinds(p) of 1", Check::alone, 0, 0, HeartVanes::kinds);
    }

    static void promise22_nothingSeenIsAll() {
        for (int kind = 0; kind < 4; kind++) {
            due("kinds(0), KIND " + kind, southEast(kind).kinds(0), ALL);
        }
    }

    static void promise22_eachWayBehindOneHour() {
        int[] due = {0, STIFF | MILL, 0, PLAIN, 0, 0, 0, SHAM};
        for (int kind = 0; kind < 4; kind++) {
            HeartVanes vanes = southEast(kind);
            for (int w = 0; w < 8; w++) {
                vanes.see(0, 1, w);
                due(w + " behind 1, its own KIND " + kind, vanes.kinds(0), due[w]);
                vanes.forget();
            }
        }
    }

    static void promise22_behind0IsWhatItTells() {
        for (int w = 0; w < 8; w++) {
            HeartVanes vanes = southEast(0);
            vanes.see(0, 0, w);
            due(w + " behind 0", vanes.kinds(0), w == 0 ? ALL : 0);
        }
    }

    static void promise22_eachNumberOfHoursTo20() {
        HeartVanes vanes = southEast(1);
        for (int n = 0; n <= 20; n++) {
            vanes.see(0, n, 3);
            int due = n == 0 ? 0 : PLAIN | (n >= 3 ? STIFF : 0) | (n % 8 == 3 ? MILL : 0);
            due("3 behind " + n, vanes.kinds(0), due);
            vanes.forget();
            vanes.see(0, n, 7);
            due("7 behind " + n, vanes.kinds(0), (n == 0 ? 0 : SHAM) | (n % 8 == 7 ? MILL : 0));
            vanes.forget();
            vanes.see(0, n, 0);
            due("0 behind " + n, vanes.kinds(0), n == 0 ? ALL : n % 8 == 0 ? MILL : 0);
            vanes.forget();
        }
    }

    static void promise22_allThatIsSeenMustBeSo() {
        HeartVanes vanes = southEast(0);
        vanes.see(0, 1, 1);
        due("1 behind 1", vanes.kinds(0), STIFF | MILL);
        vanes.see(0, 20, 3);
        due("and 3 behind 20", vanes.kinds(0), STIFF);
        vanes.see(0, 2, 2);
        vanes.see(0, 0, 0);
        vanes.see(0, 3, 3);
        due("and three more", vanes.kinds(0), STIFF);
        vanes.see(0, 4, 4);
        due("and the sixth against it", vanes.kinds(0), 0);
    }

    static void promise22_onlyWhatIsSeenOfIt() {
        HeartVanes vanes = southEast(0);
        vanes.see(1, 0, 5);
        due("of the other one", vanes.kinds(1), 0);
        due("of this one nothing", vanes.kinds(0), ALL);
    }

    static void promise22_fromHowItStandsWhenAsked() {
        HeartVanes vanes = southEast(0);
        vanes.see(0, 1, 1);
        due("from 0", vanes.kinds(0), STIFF | MILL);
        vanes.pass(1);
        due("from 3: 1 is next for none", vanes.kinds(0), 0);
        vanes.undo();
        due("from 0 again", vanes.kinds(0), STIFF | MILL);
        vanes.lean(0, 1, -5);
        due("away, by the DRAFT 7", vanes.kinds(0), MILL);
        vanes.see(0, 1, 1);
        due("SEEN anew", vanes.kinds(0), MILL);
    }

    static void promise22_withoutDraftOnlyAMillTurns() {
        HeartVanes vanes = laid("p0,0,0;");
        vanes.see(0, 1, 0);
        due("0 behind 1", vanes.kinds(0), PLAIN | STIFF | SHAM);
        vanes.forget();
        vanes.see(0, 1, 1);
        due("1 behind 1", vanes.kinds(0), MILL);
        vanes.forget();
        vanes.see(0, 8, 0);
        vanes.see(0, 16, 0);
        due("0 behind 8 and 16", vanes.kinds(0), ALL);
    }

    static void promise22_itChangesNothing() {
        HeartVanes vanes = southEast(0);
        vanes.see(0, 1, 7);
        due("kinds(0)", vanes.kinds(0), SHAM);
        due("its KIND as before", vanes.person(0, 0), 0);
        due("its VANE as before", vanes.person(0, 3), 0);
        // 0 tells 6, its DRAFT is 6: 7 behind 1 is a MILL's alone
        leaves("kinds(0)", Check::busy, busy -> busy.kinds(0), MILL);
        // 2 tells 5, its DRAFT is 0: 3 behind 3 is none's
        leaves("kinds(2)", Check::busy, busy -> busy.kinds(2), 0);
    }

    public static void main(String[] args) {
        runAll(Promise22Test.class);
    }
}
