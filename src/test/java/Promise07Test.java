/** Promise 7: leaning. */
public final class Promise07Test extends Check {
    static void promise07_personsAreSuchAsThereAre() {
        bounds("leaning(a, 0) of 6", Check::busy, 1, 5, (vanes, a) -> vanes.leaning(a, 0));
        bounds("leaning(0, b) of 6", Check::busy, 1, 5, (vanes, b) -> vanes.leaning(0, b));
        bounds("leaning(a, 5) of 6", Check::busy, 0, 4, (vanes, a) -> vanes.leaning(a, 5));
        bounds("leaning(5, b) of 6", Check::busy, 0, 4, (vanes, b) -> vanes.leaning(5, b));
        bounds("leaning(a, 0) of 2", Check::two, 1, 1, (vanes, a) -> vanes.leaning(a, 0));
        bounds("leaning(1, b) of 2", Check::two, 0, 0, (vanes, b) -> vanes.leaning(1, b));
    }

    static void promise07_alikeIsBad() {
        for (int p = 0; p < 6; p++) {
            int asked = p;
            leaves("leaning(" + p + ", " + p + ")", Check::busy, vanes -> vanes.leaning(asked, asked), BAD);
        }
        leaves("leaning(0, 0) of one alone", Check::alone, vanes -> vanes.leaning(0, 0), BAD);
        leaves("leaning(0, 1) of one alone", Check::alone, vanes -> vanes.leaning(0, 1), BAD);
        leaves("leaning(6, 6)", Check::busy, vanes -> vanes.leaning(6, 6), BAD);
    }

    static void promise07_20IsAdded() {
        HeartVanes vanes = laid("p0,0,0;p0,1,1;p0,2,2;l0,1,0,20;l1,0,1,20;l0,2,0,1;l2,0,1,1;l1,2,0,0;l2,1,1,0;");
        due("by 20", vanes.leaning(0, 1), 40);
        due("away by 20", vanes.leaning(1, 0), 0);
        due("by 1", vanes.leaning(0, 2), 21);
        due("away by 1", vanes.leaning(2, 0), 19);
        due("by 0", vanes.leaning(1, 2), 20);
        due("away by 0", vanes.leaning(2, 1), 20);
    }

    static void promise07_itIsByHowOneLeansNotTheOther() {
        HeartVanes vanes = new HeartVanes();
        vanes.lean(4, 2, 17);
        due("leaning(4, 2)", vanes.leaning(4, 2), 37);
        due("leaning(2, 4)", vanes.leaning(2, 4), 20);
    }

    static void promise07_itChangesNothing() {
        leaves("leaning(1, 2)", Check::busy, vanes -> vanes.leaning(1, 2), 14);
    }

    public static void main(String[] args) {
        runAll(Promise07Test.class);
    }
}
