/** Promise 27: back. */
public final class Promise27Test extends Check {
    private static HeartVanes nothingKept() {
        HeartVanes vanes = laid("p2,0,0;p0,3,3;l1,0,0,4;");
        vanes.pass(2);
        vanes.walk(0, 1);
        vanes.see(0, 1, 3);
        return vanes;
    }

    static void promise27_nothingKeptIsNo() {
        leaves("back() of a new object", HeartVanes::new, HeartVanes::back, NO);
        leaves("back(), never KEPT", Promise27Test::nothingKept, HeartVanes::back, NO);
        leaves("back(), KEPT no more", Promise27Test::keptNoMore, HeartVanes::back, NO);
        leaves("back() behind lay()", Promise27Test::laidBehindKeep, HeartVanes::back, NO);
    }

    private static HeartVanes keptNoMore() {
        HeartVanes vanes = busy();
        vanes.back();
        vanes.pass(1);
        vanes.walk(0, 0);
        return vanes;
    }

    private static HeartVanes laidBehindKeep() {
        HeartVanes vanes = busy();
        vanes.keep();
        vanes.lay();
        vanes.pass(1);
        return vanes;
    }

    static void promise27_theLastFirstAndHowManyAreLeft() {
        HeartVanes vanes = laid("p2,0,0;");
        vanes.pass(2);
        vanes.keep();
        vanes.pass(3);
        vanes.keep();
        vanes.pass(4);
        due("back()", vanes.back(), 1);
        due("count(8)", vanes.count(8), 1);
        due("HOURS of the last", vanes.count(3), 5);
        due("the MILL", vanes.person(0, 3), 5);
        vanes.pass(1);
        due("back() again", vanes.back(), 0);
        due("HOURS of the first", vanes.count(3), 2);
        due("the MILL", vanes.person(0, 3), 2);
        due("back(), no more", vanes.back(), NO);
    }

    static void promise27_allAsItStood() {
        HeartVanes vanes = laid("p2,0,0;p0,3,3;p1,5,5;p3,0,5;l1,0,0,4;l2,1,0,9;l3,1,1,20;");
        vanes.pass(2);
        vanes.walk(1, 0);
        vanes.lean(0, 1, -20);
        vanes.keep();
        HeartVanes asKept = laid("p2,0,0;p0,3,3;p1,5,5;p3,0,5;l1,0,0,4;l2,1,0,9;l3,1,1,20;");
        asKept.pass(2);
        asKept.walk(1, 0);
        asKept.lean(0, 1, -20);
        asKept.keep();
        asKept.back();
        vanes.pass(24);
        for (int p = 0; p < 4; p++) {
            vanes.walk(p, p);
            vanes.lean(p, (p + 1) % 4, p - 10);
        }
        due("back()", vanes.back(), 0);
        dueStandsAs("back, as KEPT", vanes, asKept);
    }

    static void promise27_nothingIsUndoneThen() {
        HeartVanes vanes = busy();
        due("count(7) ahead", vanes.count(7), 4);
        due("back()", vanes.back(), 0);
        due("count(7)", vanes.count(7), 0);
        due("undo()", vanes.undo(), NO);
        vanes.pass(1);
        due("undo() of an act behind it", vanes.undo(), 0);
        due("HOURS", vanes.count(3), 3);
        due("undo() of nothing", vanes.undo(), NO);
    }

    static void promise27_backAtOnceUndoesNothingEither() {
        HeartVanes vanes = laid("p2,0,0;");
        vanes.pass(1);
        vanes.keep();
        due("back()", vanes.back(), 0);
        due("count(7)", vanes.count(7), 0);
        due("undo()", vanes.undo(), NO);
        due("HOURS", vanes.count(3), 1);
    }

    static void promise27_eightCanBeUndoneBehindIt() {
        HeartVanes vanes = busy();
        vanes.back();
        for (int i = 1; i <= 9; i++) {
            vanes.pass(1);
            due("count(7), " + i, vanes.count(7), Math.min(i, 8));
        }
        for (int left = 7; left >= 0; left--) {
            due("undo()", vanes.undo(), left);
        }
        due("undo() of the ninth", vanes.undo(), NO);
        due("HOURS", vanes.count(3), 4);
    }

    static void promise27_whatIsSeenStays() {
        HeartVanes vanes = laid("p2,0,0;");
        vanes.see(0, 1, 1);
        vanes.keep();
        vanes.see(0, 2, 2);
        due("back()", vanes.back(), 0);
        due("SEEN behind keep() too", vanes.count(6), 2);
        vanes.keep();
        vanes.forget();
        vanes.back();
        due("SEEN, forgotten", vanes.count(6), 0);
        due("kinds(0)", vanes.kinds(0), 15);
    }

    static void promise27_theTextStays() {
        HeartVanes vanes = busy();
        vanes.write('p');
        vanes.back();
        due("count(9)", vanes.count(9), 112);
        due("fault()", vanes.fault(), 111);
        HeartVanes wiped = busy();
        wiped.wipe();
        wiped.back();
        due("count(9), wiped", wiped.count(9), 0);
    }

    static void promise27_theHoursInAllGoOnFromThere() {
        HeartVanes vanes = busy();
        vanes.back();
        due("pass(1)", vanes.pass(1), 4);
    }

    public static void main(String[] args) {
        runAll(Promise27Test.class);
    }
}
