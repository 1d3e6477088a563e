/** Promise 28: count. */
public final class Promise28Test extends Check {
    static void promise28_whatIs0To9() {
        bounds("count(what)", Check::busy, 0, 9, HeartVanes::count);
        bounds("count(what) of one alone", Check::alone, 0, 9, HeartVanes::count);
        for (int what = 0; what <= 9; what++) {
            dueTrue("count(" + what + ") is not BAD", busy().count(what) >= 0);
        }
    }

    static void promise28_eachIsItsOwn() {
        int[] counts = {9, 8, 6, 5, 6, 8, 2, 4, 1, 111};
        for (int what = 0; what < counts.length; what++) {
            int asked = what;
            leaves("count(" + what + ")", Check::busy, vanes -> vanes.count(asked), counts[what]);
        }
    }

    static void promise28_theSmallest() {
        int[] counts = {1, 1, 1, 0, 0, 0, 0, 0, 0, 12};
        for (int what = 0; what < counts.length; what++) {
            due("count(" + what + ")", alone().count(what), counts[what]);
        }
    }

    static void promise28_theLargestRoom() {
        HeartVanes vanes = laid("r9,9;p0,8,8;");
        due("W", vanes.count(0), 9);
        due("H", vanes.count(1), 9);
        HeartVanes narrow = laid("r1,9;p0,0,8;");
        due("W", narrow.count(0), 1);
        due("H", narrow.count(1), 9);
        HeartVanes flat = laid("r9,1;p0,8,0;");
        due("W", flat.count(0), 9);
        due("H", flat.count(1), 1);
    }

    static void promise28_hoursGoneBy() {
        HeartVanes vanes = alone();
        vanes.pass(24);
        vanes.pass(24);
        vanes.pass(1);
        due("HOURS", vanes.count(3), 49);
        vanes.undo();
        due("HOURS, undone", vanes.count(3), 48);
        vanes.behind(40, 0);
        vanes.evening(0, 60, 0);
        vanes.settled();
        due("HOURS that did not go by", vanes.count(3), 48);
    }

    static void promise28_personsThatHaveADraft() {
        HeartVanes vanes = laid("p0,0,0;p1,1,0;p2,2,0;p3,3,0;p0,4,0;p0,5,0;");
        due("none", vanes.count(4), 0);
        for (int p = 0; p < 6; p++) {
            vanes.lean(p, (p + 1) % 6, 1);
            due("DRAFTS of " + (p + 1), vanes.count(4), p + 1);
        }
        vanes.lean(5, 0, 0);
        due("DRAFTS, one less", vanes.count(4), 5);
        vanes.lean(5, 0, -1);
        due("DRAFTS, away from one", vanes.count(4), 6);
        due("toward one 12 away", laid("r9,9;p0,0,0;p0,8,4;l0,1,0,9;").count(4), 0);
        due("toward one 11 away", laid("r9,9;p0,0,0;p0,8,3;l0,1,0,9;").count(4), 1);
        due("toward one 13 away", laid("r9,9;p0,0,0;p0,8,5;l0,1,0,9;").count(4), 0);
        due("away from one 16 away", laid("r9,9;p0,0,0;p0,8,8;l0,1,1,9;").count(4), 0);
    }

    static void promise28_leaningsOtherThan0() {
        HeartVanes vanes = laid("p0,0,0;p1,1,0;p2,2,0;p3,3,0;p0,4,0;p0,5,0;");
        int many = 0;
        for (int a = 0; a < 6; a++) {
            for (int b = 0; b < 6; b++) {
                if (a != b) {
                    many++;
                    vanes.lean(a, b, many % 2 == 0 ? -1 : 1);
                    due("LEANINGS", vanes.count(5), many);
                }
            }
        }
        due("all LEANINGS", vanes.count(5), 30);
        vanes.lean(0, 5, 0);
        due("one less", vanes.count(5), 29);
        vanes.lean(0, 5, 0);
        due("by 0 again", vanes.count(5), 29);
        vanes.undo();
        vanes.undo();
        due("undone", vanes.count(5), 30);
        due("told by 0", laid("p0,0,0;p0,1,0;l0,1,0,0;l1,0,1,0;").count(5), 0);
        due("told twice", laid("p0,0,0;p0,1,0;l0,1,0,5;l0,1,1,5;").count(5), 1);
    }

    static void promise28_seenUndoneKeptAtMost() {
        HeartVanes vanes = alone();
        for (int i = 1; i <= 10; i++) {
            vanes.see(0, 0, 0);
            vanes.pass(1);
            vanes.keep();
            due("SEEN", vanes.count(6), Math.min(i, 6));
            due("can be UNDONE", vanes.count(7), Math.min(i, 8));
            due("KEPT", vanes.count(8), Math.min(i, 2));
        }
    }

    static void promise28_lettersOfTheText() {
        HeartVanes vanes = new HeartVanes();
        for (int i = 1; i <= 201; i++) {
            vanes.write('x');
            due("letters", vanes.count(9), Math.min(i, 200));
        }
        vanes.wipe();
        due("letters, wiped", vanes.count(9), 0);
    }

    public static void main(String[] args) {
        runAll(Promise28Test.class);
    }
}
