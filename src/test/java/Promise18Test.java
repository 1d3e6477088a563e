/** Promise 18: stand. */
public final class Promise18Test extends Check {
    /** 1 leans toward 0, who may stand anywhere but at 4, 4. */
    private static HeartVanes wide() {
        return laid("r9,9;p0,0,0;p0,4,4;l1,0,0,2;");
    }

    private static void dueStand(HeartVanes vanes, int p, int q, int w, int many, int first) {
        String call = "stand(" + p + ", " + q + ", " + w + ", ";
        due(call + "0)", vanes.stand(p, q, w, 0), many);
        due(call + "1)", vanes.stand(p, q, w, 1), first);
    }

    static void promise18_personsAreSuchAsThereAre() {
        for (int what = 0; what < 2; what++) {
            int asked = what;
            bounds("stand(p, 0, 3, " + what + ") of 6", Check::busy, 1, 5, (vanes, p) -> vanes.stand(p, 0, 3, asked));
            bounds("stand(p, 5, 3, " + what + ") of 6", Check::busy, 0, 4, (vanes, p) -> vanes.stand(p, 5, 3, asked));
            bounds("stand(0, q, 3, " + what + ") of 6", Check::busy, 1, 5, (vanes, q) -> vanes.stand(0, q, 3, asked));
            bounds("stand(5, q, 3, " + what + ") of 6", Check::busy, 0, 4, (vanes, q) -> vanes.stand(5, q, 3, asked));
            bounds("stand(p, 0, 3, " + what + ") of 2", Check::two, 1, 1, (vanes, p) -> vanes.stand(p, 0, 3, asked));
            bounds("stand(1, q, 3, " + what + ") of 2", Check::two, 0, 0, (vanes, q) -> vanes.stand(1, q, 3, asked));
        }
    }

    static void promise18_alikeIsBad() {
        for (int p = 0; p < 6; p++) {
            int asked = p;
            leaves("stand(" + p + ", " + p + ", 0, 0)", Check::busy, vanes -> vanes.stand(asked, asked, 0, 0), BAD);
            leaves("stand(" + p + ", " + p + ", 0, 1)", Check::busy, vanes -> vanes.stand(asked, asked, 0, 1), BAD);
        }
        leaves("stand(0, 0, 0, 1) of one alone", Check::alone, vanes -> vanes.stand(0, 0, 0, 1), BAD);
    }

    static void promise18_waysAre0To7() {
        bounds("stand(0, 1, w, 0)", Check::busy, 0, 7, (vanes, w) -> vanes.stand(0, 1, w, 0));
        bounds("stand(0, 1, w, 1)", Check::busy, 0, 7, (vanes, w) -> vanes.stand(0, 1, w, 1));
        bounds("stand(0, 1, w, 0), no DRAFT", () -> laid("p0,0,0;p0,1,1;"), 0, 7, (vanes, w) -> vanes.stand(0, 1, w, 0));
    }

    static void promise18_whatIs0Or1() {
        bounds("stand(0, 1, 3, what)", Check::busy, 0, 1, (vanes, what) -> vanes.stand(0, 1, 3, what));
    }

    static void promise18_badIsAheadOfNone() {
        Made none = () -> laid("p0,0,0;p0,1,1;");
        leaves("stand(0, 1, 0, 1), none", none, vanes -> vanes.stand(0, 1, 0, 1), NONE);
        leaves("stand(0, 1, 0, 0), none", none, vanes -> vanes.stand(0, 1, 0, 0), 0);
        leaves("stand(0, 2, 0, 1)", none, vanes -> vanes.stand(0, 2, 0, 1), BAD);
        leaves("stand(0, 1, 8, 1)", none, vanes -> vanes.stand(0, 1, 8, 1), BAD);
        leaves("stand(1, 1, 0, 1)", none, vanes -> vanes.stand(1, 1, 0, 1), BAD);
        leaves("stand(0, 1, 0, 2)", none, vanes -> vanes.stand(0, 1, 0, 2), BAD);
    }

    /** Of 80 PLACES, 8 are straight by each of four ways and 12 between each two. */
    static void promise18_eachWayByXThenY() {
        int[] many = {8, 12, 8, 12, 8, 12, 8, 12};
        int[] first = {30, 52, 54, 55, 37, 6, 3, 0};
        for (int w = 0; w < 8; w++) {
            dueStand(wide(), 0, 1, w, many[w], first[w]);
        }
        HeartVanes away = laid("r9,9;p0,0,0;p0,4,4;l1,0,1,2;");
        for (int w = 0; w < 8; w++) {
            dueStand(away, 0, 1, (w + 4) % 8, many[w], first[w]);
        }
    }

    static void promise18_allOfAWideAndOfADeepRoom() {
        // all PLACES but those of the other one and a third, whom it leans toward
        dueStand(laid("r9,2;p0,8,1;p0,0,0;p0,1,0;l1,2,0,5;"), 0, 1, 2, 16, 1);
        dueStand(laid("r2,9;p0,1,8;p0,0,0;p0,0,1;l1,2,0,5;"), 0, 1, 4, 16, 2);
        dueStand(laid("r9,1;p0,8,0;p0,0,0;p0,1,0;l1,2,0,5;"), 0, 1, 2, 7, 20);
        dueStand(laid("r1,9;p0,0,8;p0,0,0;p0,0,1;l1,2,0,5;"), 0, 1, 4, 7, 2);
        // the farthest of a row alone, since 2 stands between
        dueStand(laid("r3,1;p0,2,0;p0,0,0;p0,1,0;l1,0,0,5;"), 0, 1, 2, 1, 20);
        dueStand(laid("r1,3;p0,0,2;p0,0,0;p0,0,1;l1,0,0,5;"), 0, 1, 4, 1, 2);
    }

    static void promise18_theFirstMayBe0Or88() {
        dueStand(laid("r9,9;p0,5,5;p0,0,1;l1,0,0,2;"), 0, 1, 0, 1, 0);
        dueStand(laid("r9,9;p0,5,5;p0,8,7;l1,0,0,2;"), 0, 1, 4, 1, 88);
    }

    static void promise18_itsOwnPlaceIsOne() {
        HeartVanes vanes = laid("r3,3;p0,0,0;p0,1,1;p0,2,2;l1,0,0,5;");
        dueStand(vanes, 0, 1, 7, 1, 0);
        dueStand(laid("r2,1;p0,0,0;p0,1,0;l1,0,0,5;"), 0, 1, 6, 1, 0);
        dueStand(laid("r2,1;p0,0,0;p0,1,0;l1,0,0,5;"), 0, 1, 2, 0, NONE);
    }

    static void promise18_nobodyElseIsThere() {
        HeartVanes vanes = laid("r3,3;p0,0,0;p0,1,1;p0,2,2;l1,0,0,5;");
        dueStand(vanes, 0, 1, 3, 0, NONE);
        vanes.walk(2, 0);
        dueStand(vanes, 0, 1, 3, 1, 22);
        dueStand(vanes, 0, 1, 2, 0, NONE);
        // of 9 PLACES that of the other one and a third's are none: all count where the first one is not felt
        dueStand(laid("r3,3;p0,0,0;p0,1,1;p0,2,2;l1,2,0,5;"), 0, 1, 3, 7, 0);
        dueStand(laid("r3,3;p0,2,2;p0,1,1;p0,0,0;l1,2,0,5;"), 0, 1, 7, 7, 1);
    }

    static void promise18_allPlacesOfTheLargestRoom() {
        dueStand(laid("r9,9;p0,8,8;p0,0,0;p0,0,1;l1,2,0,5;"), 0, 1, 4, 79, 2);
        dueStand(laid("r9,9;p0,8,8;p0,4,4;p0,4,3;l1,2,0,5;"), 0, 1, 0, 79, 0);
        dueStand(laid("r9,9;p0,8,8;p0,4,4;p0,4,3;l1,2,0,5;"), 0, 1, 4, 0, NONE);
    }

    static void promise18_12AwayIsNotFelt() {
        // from a corner: SE is felt up to 11 away only
        int many = 0;
        for (int east = 0; east < 9; east++) {
            for (int south = 0; south < 9; south++) {
                many += east + south <= 11 && east <= 2 * south && south <= 2 * east && east > 0 ? 1 : 0;
            }
        }
        dueStand(laid("r9,9;p0,0,8;p0,0,0;l1,0,0,20;"), 0, 1, 3, many, 11);
        dueStand(laid("r9,9;p0,0,8;p0,0,0;l1,0,0,20;"), 0, 1, 7, 0, NONE);
        // at 12 or more away what is felt toward a third is all there is
        HeartVanes third = laid("r9,9;p0,8,8;p0,0,0;p0,0,1;l1,0,1,20;l1,2,0,1;");
        due("12 away or more", third.stand(0, 1, 4, 0), 15);
    }

    static void promise18_itIsByHowItStandsNow() {
        HeartVanes vanes = laid("r3,3;p0,0,0;p0,1,1;p0,2,2;l1,0,0,5;");
        dueStand(vanes, 0, 1, 7, 1, 0);
        vanes.walk(1, 2);
        // from 1, 2 the north-west is 0, 0 and 0, 1
        dueStand(vanes, 0, 1, 7, 2, 0);
        dueStand(vanes, 0, 1, 0, 2, 10);
        vanes.lean(1, 0, -5);
        dueStand(vanes, 0, 1, 3, 2, 0);
        vanes.walk(0, 1);
        dueStand(vanes, 0, 1, 4, 2, 10);
        vanes.undo();
        vanes.undo();
        vanes.undo();
        dueStand(vanes, 0, 1, 7, 1, 0);
    }

    static void promise18_ofOneBehindAnother() {
        HeartVanes vanes = laid("r3,3;p0,0,0;p0,1,1;p0,2,2;l1,0,0,5;l0,2,0,5;");
        dueStand(vanes, 0, 1, 7, 1, 0);
        // 0 is at 0, 0 for this, wherever it was tried ahead
        dueStand(vanes, 2, 0, 3, 3, 12);
        dueStand(vanes, 0, 1, 7, 1, 0);
    }

    static void promise18_itChangesNothing() {
        leaves("stand(0, 1, 7, 0)", Promise18Test::wide, vanes -> vanes.stand(0, 1, 7, 0), 12);
        leaves("stand(0, 1, 7, 1)", Promise18Test::wide, vanes -> vanes.stand(0, 1, 7, 1), 0);
        leaves("stand(2, 5, 0, 1)", Check::busy, vanes -> vanes.stand(2, 5, 0, 1), 70);
    }

    public static void main(String[] args) {
        runAll(Promise18Test.class);
    }
}
