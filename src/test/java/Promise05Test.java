/** Promise 5: lay, with what is LAID. */
public final class Promise05Test extends Check {
    static void promise05_aTextWithFaultIsNotLaid() {
        String[] texts = {"x", "p0,0,0;x", "p0,0,0", "r0,1;p0,0,0;", "p0,6,0;", "p0,0,0;p0,0,0;", "p0,0,0;l0,0,0,1;", "p0,0,0;r6,6;"};
        for (String text : texts) {
            leaves("lay() of " + text, () -> busyWith(text), HeartVanes::lay, NO);
        }
    }

    static void promise05_aTextWithoutPersonIsNotLaid() {
        leaves("lay() of nothing", () -> busyWith(""), HeartVanes::lay, NO);
        leaves("lay() of a ROOM alone", () -> busyWith("r9,9;"), HeartVanes::lay, NO);
        leaves("lay() of ROOMS alone", () -> busyWith("r9,9;r1,1;"), HeartVanes::lay, NO);
        leaves("lay() of a new object", HeartVanes::new, HeartVanes::lay, NO);
        due("lay() with one PERSON", busyWith("r9,9;p0,0,0;").lay(), 1);
    }

    private static HeartVanes busyWith(String text) {
        HeartVanes vanes = busy();
        vanes.wipe();
        writeAll(vanes, text);
        return vanes;
    }

    static void promise05_theAnswerIsHowManyPersons() {
        StringBuilder text = new StringBuilder();
        for (int many = 1; many <= 6; many++) {
            text.append("p0,").append(many - 1).append(",0;");
            HeartVanes vanes = written(text.toString());
            due("lay() of " + many, vanes.lay(), many);
            due("count(2)", vanes.count(2), many);
            due("the last one's X", vanes.person(many - 1, 1), many - 1);
            due("one more", vanes.person(many, 1), BAD);
        }
        HeartVanes seven = written(text.append("p0,0,1;").toString());
        due("lay() of 7", seven.lay(), NO);
        due("count(2), not laid", seven.count(2), 6);
        due("count(0), not laid", seven.count(0), 7);
    }

    static void promise05_hour0NothingSeenUndoneKept() {
        HeartVanes vanes = busy();
        due("lay()", vanes.lay(), 6);
        int[] counts = {9, 8, 6, 0, 6, 7, 0, 0, 0, 111};
        for (int what = 0; what < counts.length; what++) {
            due("count(" + what + ")", vanes.count(what), counts[what]);
        }
        due("undo()", vanes.undo(), NO);
        due("back()", vanes.back(), NO);
        due("forget()", vanes.forget(), 0);
        for (int p = 0; p < 6; p++) {
            due("what the VANE of " + p + " tells", vanes.person(p, 3), 0);
            due("kinds(" + p + ")", vanes.kinds(p), 15);
        }
    }

    static void promise05_fullRowsTakeAnew() {
        HeartVanes vanes = laid("p2,0,0;p0,3,3;");
        for (int i = 0; i < 8; i++) {
            vanes.pass(1);
            vanes.keep();
            vanes.see(0, 1, 1);
        }
        due("see, full", vanes.see(0, 1, 1), FULL);
        due("keep, full", vanes.keep(), FULL);
        due("count(7), full", vanes.count(7), 8);
        due("lay()", vanes.lay(), 2);
        due("see anew", vanes.see(0, 1, 1), 1);
        due("keep anew", vanes.keep(), 1);
        due("pass anew", vanes.pass(1), 1);
        due("undo anew", vanes.undo(), 0);
        due("undo, no more", vanes.undo(), NO);
    }

    static void promise05_theTextStays() {
        HeartVanes vanes = busy();
        vanes.lay();
        due("count(9)", vanes.count(9), 111);
        due("lay() again", vanes.lay(), 6);
        due("one letter more", vanes.write('p'), 112);
        due("fault()", vanes.fault(), 111);
        due("wipe()", vanes.wipe(), 112);
        HeartVanes full = written(TEXT_OF_200);
        due("lay() of 200 letters", full.lay(), 6);
        due("write behind them", full.write('p'), FULL);
    }

    static void promise05_theRoomIs6And6Without() {
        HeartVanes vanes = laid("p0,5,5;");
        due("W", vanes.count(0), 6);
        due("H", vanes.count(1), 6);
    }

    static void promise05_ofSeveralRoomsTheLastOneCounts() {
        HeartVanes vanes = laid("r2,3;r4,5;p0,3,4;");
        due("W", vanes.count(0), 4);
        due("H", vanes.count(1), 5);
        HeartVanes small = laid("r9,9;r1,2;p0,0,1;");
        due("W of the smaller one", small.count(0), 1);
        due("H of the smaller one", small.count(1), 2);
    }

    static void promise05_nothingOfTheRoomAheadStays() {
        HeartVanes vanes = laid("r9,9;p1,8,8;p1,7,7;p1,0,0;l0,1,0,20;l1,0,1,20;l2,0,0,3;");
        vanes.pass(2);
        vanes.wipe();
        writeAll(vanes, "p2,0,0;p3,1,0;");
        due("lay() anew", vanes.lay(), 2);
        due("W", vanes.count(0), 6);
        due("H", vanes.count(1), 6);
        due("LEANINGS", vanes.count(5), 0);
        due("leaning(0, 1)", vanes.leaning(0, 1), 20);
        due("leaning(1, 0)", vanes.leaning(1, 0), 20);
        due("person(2, 0)", vanes.person(2, 0), BAD);
        due("person(0, 0)", vanes.person(0, 0), 2);
        due("person(0, 3)", vanes.person(0, 3), 0);
        due("place(5, 5)", vanes.place(5, 5), NONE);
    }

    static void promise05_aFaultAheadLeavesNothingInTheNext() {
        HeartVanes vanes = written("r9,9;p1,8,8;p1,7,7;l0,1,0,20;x");
        due("lay() with FAULT", vanes.lay(), NO);
        vanes.wipe();
        writeAll(vanes, "p0,0,0;p0,1,1;");
        due("lay()", vanes.lay(), 2);
        due("W", vanes.count(0), 6);
        due("LEANINGS", vanes.count(5), 0);
    }

    static void promise05_aLeaningIs0WithoutTheLastOfBothCounts() {
        HeartVanes vanes = laid("p0,0,0;p0,1,1;p0,2,2;l0,1,0,5;l1,0,1,20;l0,1,1,7;l2,0,0,20;l2,1,1,9;l2,1,0,0;");
        due("without", vanes.leaning(0, 2), 20);
        due("the last one", vanes.leaning(0, 1), 13);
        due("the other of both is one of its own", vanes.leaning(1, 0), 0);
        due("20 toward", vanes.leaning(2, 0), 40);
        due("the last one, 0", vanes.leaning(2, 1), 20);
    }

    static void promise05_personsAreToldInTheirOrder() {
        HeartVanes vanes = laid("p3,5,1;p0,0,0;l0,1,0,1;p2,1,5;p1,4,4;");
        int[][] due = {{3, 5, 1}, {0, 0, 0}, {2, 1, 5}, {1, 4, 4}};
        for (int p = 0; p < due.length; p++) {
            for (int what = 0; what < 3; what++) {
                due("person(" + p + ", " + what + ")", vanes.person(p, what), due[p][what]);
            }
        }
    }

    public static void main(String[] args) {
        runAll(Promise05Test.class);
    }
}
