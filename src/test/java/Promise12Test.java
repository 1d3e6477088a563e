/** Promise 12: undo, with what is UNDONE. */
public final class Promise12Test extends Check {
    static void promise12_nothingToBeUndoneIsNo() {
        leaves("undo() of a new object", HeartVanes::new, HeartVanes::undo, NO);
        leaves("undo() behind lay()", Check::alone, HeartVanes::undo, NO);
        leaves("undo() behind back()", Promise12Test::goneBackOnce, HeartVanes::undo, NO);
        leaves("undo() behind all are UNDONE", Promise12Test::allUndone, HeartVanes::undo, NO);
    }

    private static HeartVanes goneBackOnce() {
        HeartVanes vanes = busy();
        vanes.back();
        return vanes;
    }

    private static HeartVanes allUndone() {
        HeartVanes vanes = busy();
        for (int left = 3; left >= 0; left--) {
            vanes.undo();
        }
        return vanes;
    }

    static void promise12_theLast8CanBe() {
        HeartVanes vanes = laid("p2,0,0;p0,3,3;");
        for (int i = 1; i <= 10; i++) {
            due("pass(1), " + i, vanes.pass(1), i);
            due("count(7), " + i, vanes.count(7), Math.min(i, 8));
        }
        for (int left = 7; left >= 0; left--) {
            due("undo()", vanes.undo(), left);
            due("count(7)", vanes.count(7), left);
            due("HOURS", vanes.count(3), left + 2);
            due("the MILL", vanes.person(0, 3), (left + 2) % 8);
        }
        due("undo() of the ninth", vanes.undo(), NO);
        due("HOURS, 2 not to be UNDONE", vanes.count(3), 2);
    }

    static void promise12_just8CanAllBe() {
        HeartVanes vanes = laid("p2,0,0;");
        for (int i = 1; i <= 8; i++) {
            vanes.pass(1);
        }
        for (int left = 7; left >= 0; left--) {
            due("undo()", vanes.undo(), left);
        }
        due("HOURS", vanes.count(3), 0);
        due("undo() of nothing", vanes.undo(), NO);
    }

    static void promise12_roundAndRound() {
        HeartVanes vanes = laid("p2,0,0;p0,3,3;");
        int told = 0;
        for (int round = 0; round < 6; round++) {
            for (int i = 0; i < 13; i++) {
                told++;
                vanes.lean(0, 1, told % 41 - 20);
            }
            for (int i = 1; i <= 5; i++) {
                due("undo(), round " + round, vanes.undo(), 8 - i);
                due("leaning(0, 1)", vanes.leaning(0, 1), (told - i) % 41);
            }
            told -= 5;
        }
    }

    static void promise12_hoursAtOneTimeAreOne() {
        HeartVanes vanes = laid("p2,0,0;");
        vanes.pass(24);
        vanes.pass(3);
        due("undo() of 3", vanes.undo(), 1);
        due("HOURS", vanes.count(3), 24);
        due("undo() of 24", vanes.undo(), 0);
        due("HOURS, none", vanes.count(3), 0);
        due("undo() of nothing", vanes.undo(), NO);
    }

    static void promise12_everyActIsUndoneAsItWas() {
        HeartVanes vanes = laid("p2,0,0;p0,3,3;p1,5,5;l1,0,0,4;l2,0,0,3;");
        vanes.pass(5);
        vanes.walk(0, 1);
        vanes.lean(1, 0, -3);
        vanes.pass(1);
        due("undo() of an HOUR", vanes.undo(), 3);
        due("HOURS", vanes.count(3), 5);
        due("the MILL", vanes.person(0, 3), 5);
        due("the PLAIN one", vanes.person(1, 3), 7);
        due("undo() of a LEANING", vanes.undo(), 2);
        due("the LEANING", vanes.leaning(1, 0), 24);
        due("undo() of a walk", vanes.undo(), 1);
        due("its X", vanes.person(0, 1), 0);
        due("its PLACE", vanes.place(0, 0), 0);
        due("the PLACE that it left", vanes.place(1, 0), NONE);
        due("undo() of 5 HOURS", vanes.undo(), 0);
        due("HOURS, none", vanes.count(3), 0);
        for (int p = 0; p < 3; p++) {
            due("the VANE of " + p, vanes.person(p, 3), 0);
        }
        due("undo() of nothing more", vanes.undo(), NO);
    }

    static void promise12_aNewActComesBehindWhatIsLeft() {
        HeartVanes vanes = laid("p2,0,0;p0,3,3;");
        vanes.pass(1);
        vanes.pass(2);
        vanes.undo();
        vanes.walk(1, 0);
        due("undo() of the walk", vanes.undo(), 1);
        due("its PLACE", vanes.place(3, 3), 1);
        due("HOURS", vanes.count(3), 1);
        due("undo() of the first", vanes.undo(), 0);
        due("HOURS, none", vanes.count(3), 0);
    }

    static void promise12_whatWasRefusedIsNotUndone() {
        HeartVanes vanes = laid("r1,2;p2,0,0;p0,0,1;");
        vanes.pass(1);
        vanes.pass(0);
        vanes.pass(25);
        vanes.walk(0, 2);
        vanes.walk(0, 0);
        vanes.walk(0, 4);
        vanes.lean(0, 1, 21);
        vanes.lean(0, 0, 1);
        due("count(7)", vanes.count(7), 1);
        due("undo()", vanes.undo(), 0);
        due("HOURS", vanes.count(3), 0);
    }

    static void promise12_otherCallsAreNotUndone() {
        HeartVanes vanes = busy();
        vanes.write('p');
        vanes.see(1, 1, 1);
        vanes.keep();
        due("undo() of the last HOURS", vanes.undo(), 3);
        due("HOURS", vanes.count(3), 3);
        due("SEEN stays", vanes.count(6), 3);
        due("KEPT stays", vanes.count(8), 2);
        due("THE TEXT stays", vanes.count(9), 112);
        due("forget()", vanes.forget(), 3);
        due("wipe()", vanes.wipe(), 112);
        due("undo()", vanes.undo(), 2);
        due("SEEN, none", vanes.count(6), 0);
        due("THE TEXT is empty", vanes.count(9), 0);
    }

    static void promise12_whatIsKeptStaysAsItWasKept() {
        HeartVanes vanes = laid("p2,0,0;");
        vanes.pass(3);
        vanes.keep();
        due("undo()", vanes.undo(), 0);
        due("HOURS", vanes.count(3), 0);
        due("back()", vanes.back(), 0);
        due("HOURS as KEPT", vanes.count(3), 3);
        due("the MILL as KEPT", vanes.person(0, 3), 3);
    }

    public static void main(String[] args) {
        runAll(Promise12Test.class);
    }
}
