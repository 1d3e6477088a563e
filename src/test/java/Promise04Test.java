import java.util.List;

/** Promise 4: fault, with what a TEXT is. */
public final class Promise04Test extends Check {
    private static final String TWO = "p0,0,0;p0,1,1;";

    private static void dueFault(String text, int want) {
        due("fault() of " + text, written(text).fault(), want);
    }

    private static void dueFaults(int want, String... texts) {
        for (String text : texts) {
            dueFault(text, want);
        }
    }

    static void promise04_anEmptyTextHasNone() {
        dueFault("", NONE);
    }

    static void promise04_aTextWithoutPersonHasNone() {
        dueFaults(NONE, "r1,1;", "r9,9;", "r2,3;r4,5;");
    }

    static void promise04_aTextOf200Letters() {
        dueFault(TEXT_OF_200, NONE);
        dueFault(TEXT_OF_200.substring(0, 199) + "x", 191);
        dueFault(TEXT_OF_200.substring(0, 199), 191);
        dueFault("r1,1;".repeat(40), NONE);
        dueFault("r1,1;".repeat(39) + "r1,10", 195);
        dueFault(TEXT_OF_200.substring(0, 191) + "l0,1,00,5", 191);
        dueFault("r1,1;".repeat(38) + "r09,9;" + "r9,;", 196);
        // an ITEM whose only letter is the last one
        dueFault("r1,1;".repeat(37) + "r09,09;".repeat(2) + "r", 199);
    }

    static void promise04_numbersHaveOneOrTwoFigures() {
        dueFaults(NONE, "r6,6;", "r06,6;", "r6,06;", "r09,01;p00,00,00;", TWO + "l0,1,0,20;", TWO + "l00,01,00,09;");
        dueFaults(0, "r006,6;", "r6,006;", "r100,6;", "p000,0,0;", "p0,000,0;", "p0,0,000;", "r0000006,6;");
        dueFaults(14, TWO + "l000,1,0,5;", TWO + "l0,001,0,5;", TWO + "l0,1,000,5;", TWO + "l0,1,0,005;", TWO + "l0,1,0,200;");
        dueFaults(0, "r,6;", "r6,;", "r,;", "p,0,0;", "p0,,0;", "p0,0,;", "r;", "p;", "l;");
        dueFaults(14, TWO + "l,1,0,5;", TWO + "l0,,0,5;", TWO + "l0,1,,5;", TWO + "l0,1,0,;");
    }

    static void promise04_numbersAreFiguresAlone() {
        dueFaults(0, "r-6,6;", "r+6,6;", "r6 ,6;", "r 6,6;", "r6, 6;", "r6,6 ;", "ra,6;", "r6,a;", "r0x,6;", "r6.,6;");
        // / and : are next to the figures 0 and 9
        dueFaults(0, "r/,6;", "r:,6;", "r6,/;", "r6,:;", "r1/,6;", "r1:,6;", "r6,1/;", "r6,1:;");
    }

    static void promise04_noOtherSignInPlaceOfAFigure() {
        String whole = "r6,6;p1,0,0;p0,1,1;l0,1,0,5;";
        int[] begins = {0, 5, 12, 19};
        for (int at = 0; at < whole.length(); at++) {
            if (!Character.isDigit(whole.charAt(at))) {
                continue;
            }
            int due = 0;
            for (int begin : begins) {
                due = begin < at ? begin : due;
            }
            for (char sign = 32; sign <= 126; sign++) {
                if (!Character.isDigit(sign)) {
                    dueFault(whole.substring(0, at) + sign + whole.substring(at + 1), due);
                    dueFault(whole.substring(0, at) + sign + whole.substring(at), due);
                    if (sign != ',' && sign != ';') {
                        dueFault(whole.substring(0, at + 1) + sign + whole.substring(at + 1), due);
                    }
                }
            }
        }
    }

    static void promise04_numbersArePartedByCommas() {
        dueFaults(0, "r6;6;", "r6.6;", "r6-6;", "r6 6;", "r6,,6;", "r,6,6;", "p0;0,0;", "p0,0;0;", "r66;");
        dueFaults(14, TWO + "l0;1,0,5;", TWO + "l0,1;0,5;", TWO + "l0,1,0;5;", TWO + "l0,1,0.5;");
    }

    static void promise04_aSemicolonIsBehindTheLast() {
        dueFaults(0, "r6,6", "r6,6,", "r6,6:", "r6,6r6,6;", "r6,6 ", "p0,0,0", "p0,0,0,", "p0,0,0p0,1,1;");
        dueFaults(14, TWO + "l0,1,0,5", TWO + "l0,1,0,5,", TWO + "l0,1,0,5l0,1,0,5;");
    }

    static void promise04_noMoreThanOneSemicolon() {
        dueFaults(0, ";", ";;", ",");
        dueFaults(5, "r6,6;;", "r6,6;,", "r6,6; ");
    }

    static void promise04_asManyNumbersAsTold() {
        dueFaults(0, "r6;", "r6,6,6;", "p0;", "p0,0;", "p0,0,0,0;", "r6,6,;");
        dueFaults(14, TWO + "l0;", TWO + "l0,1;", TWO + "l0,1,0;", TWO + "l0,1,0,5,5;", TWO + "l0,1,0,5,;");
        dueFault(TWO + "l0,1,0,5;", NONE);
    }

    static void promise04_anItemBeginsWithOneOfThreeLetters() {
        String[] numbers = {"", "1", "1,1", "1,1,1", "1,1,1,1", "1,0,0,1", "1,1,1,1,1"};
        for (char letter = 32; letter <= 126; letter++) {
            for (String row : numbers) {
                String item = letter + row + ";";
                dueFault(item, item.equals("r1,1;") || item.equals("p1,1,1;") ? NONE : 0);
                // the PLACE 1, 1 is taken there
                dueFault(TWO + item, item.equals("l1,0,0,1;") ? NONE : 14);
            }
        }
    }

    static void promise04_aBrokenItemAtTheEnd() {
        String whole = "r6,6;p0,0,0;p1,2,2;l0,1,0,20;";
        int[] begins = {0, 5, 12, 19, 29};
        for (int length = 0; length <= whole.length(); length++) {
            int due = NONE;
            for (int begin : begins) {
                due = begin < length ? begin : due;
            }
            for (int begin : begins) {
                due = begin == length ? NONE : due;
            }
            dueFault(whole.substring(0, length), due);
        }
    }

    static void promise04_theRoomIs1To9Wide() {
        dueFaults(0, "r0,6;", "r00,6;", "r10,6;", "r11,6;", "r90,6;", "r99,6;");
        for (int wide = 1; wide <= 9; wide++) {
            dueFault("r" + wide + ",6;", NONE);
        }
    }

    static void promise04_theRoomIs1To9Deep() {
        dueFaults(0, "r6,0;", "r6,00;", "r6,10;", "r6,11;", "r6,90;", "r6,99;");
        for (int deep = 1; deep <= 9; deep++) {
            dueFault("r6," + deep + ";", NONE);
        }
    }

    static void promise04_theRoomIs6And6Without() {
        dueFaults(NONE, "p0,5,0;", "p0,0,5;", "p0,5,5;");
        dueFaults(0, "p0,6,0;", "p0,0,6;", "p0,6,6;", "p0,5,6;", "p0,6,5;");
    }

    static void promise04_noOtherItemIsAheadOfTheRoom() {
        dueFault("r6,6;p0,0,0;", NONE);
        dueFault("p0,0,0;r6,6;", 7);
        dueFault("r6,6;p0,0,0;r6,6;", 12);
        dueFault(TWO + "l0,1,0,5;r6,6;", 23);
        dueFault("r6,6;" + TWO + "l0,1,0,5;r9,9;p0,8,8;", 28);
        dueFaults(NONE, "r6,6;r6,6;", "r6,6;r7,7;r8,8;p0,7,7;");
    }

    static void promise04_ofSeveralRoomsTheLastOneCounts() {
        dueFault("r1,1;r9,9;p0,8,8;", NONE);
        dueFault("r9,9;r1,1;p0,8,8;", 10);
        dueFault("r9,9;r1,1;p0,0,0;", NONE);
        dueFault("r9,9;r8,9;p0,8,8;", 10);
        dueFault("r9,9;r9,8;p0,8,8;", 10);
        dueFault("r2,3;r4,5;p0,3,4;", NONE);
    }

    static void promise04_kindsAre0To3() {
        for (int kind = 0; kind <= 99; kind++) {
            dueFault("p" + kind + ",0,0;", kind <= 3 ? NONE : 0);
        }
    }

    static void promise04_placesAreInTheRoom() {
        for (int wide = 1; wide <= 9; wide++) {
            for (int deep = 1; deep <= 9; deep++) {
                String room = "r" + wide + "," + deep + ";";
                dueFault(room + "p0," + (wide - 1) + "," + (deep - 1) + ";", NONE);
                dueFault(room + "p0," + wide + "," + (deep - 1) + ";", 5);
                dueFault(room + "p0," + (wide - 1) + "," + deep + ";", 5);
                dueFault(room + "p0,0,0;", NONE);
            }
        }
        dueFaults(5, "r9,9;p0,10,0;", "r9,9;p0,0,10;", "r9,9;p0,99,0;", "r9,9;p0,0,99;");
    }

    static void promise04_nobodyIsThere() {
        dueFault("p0,1,1;p1,1,1;", 7);
        dueFaults(NONE, "p0,1,1;p1,1,2;", "p0,1,1;p1,2,1;", "p0,1,2;p1,2,1;");
        dueFault("p0,1,1;p0,2,2;p0,3,3;p0,2,2;", 21);
        dueFault("p0,0,0;p0,1,1;p0,00,00;", 14);
        dueFault("r1,1;p0,0,0;p0,0,0;", 12);
        dueFault("p0,0,0;p0,1,0;p0,2,0;p0,3,0;p0,4,0;p0,4,0;", 35);
    }

    static void promise04_sixPersonsAtMost() {
        String six = "p0,0,0;p0,1,0;p0,2,0;p0,3,0;p0,4,0;p0,5,0;";
        dueFault(six, NONE);
        dueFault(six + "p0,0,1;", 42);
        dueFault(six + "l5,0,0,1;p0,0,1;", 51);
        dueFault("r2,3;p0,0,0;p0,1,0;p0,0,1;p0,1,1;p0,0,2;p0,1,2;", NONE);
    }

    static void promise04_oneLeansTowardAnUnlikeOne() {
        dueFault(TWO + "l0,0,0,5;", 14);
        dueFault(TWO + "l1,1,0,5;", 14);
        dueFault(TWO + "l0,0,1,0;", 14);
        dueFault(TWO + "l00,0,0,5;", 14);
        dueFaults(NONE, TWO + "l0,1,0,5;", TWO + "l1,0,0,5;");
        dueFault("p0,0,0;l0,0,0,0;", 7);
    }

    static void promise04_bothAreToldAhead() {
        dueFault("l0,1,0,5;", 0);
        dueFault("l0,1,0,5;" + TWO, 0);
        dueFault("p0,0,0;l0,1,0,5;p0,1,1;", 7);
        dueFault("p0,0,0;l1,0,0,5;p0,1,1;", 7);
        dueFaults(14, TWO + "l1,2,0,5;", TWO + "l2,1,0,5;", TWO + "l2,3,0,5;", TWO + "l0,99,0,5;", TWO + "l99,0,0,5;");
        dueFault("p0,0,0;p0,1,1;l0,1,0,5;p0,2,2;l2,0,1,3;", NONE);
        dueFault("p0,0,0;p0,1,1;l0,1,0,5;p0,2,2;l2,3,1,3;", 30);
        String six = "p0,0,0;p0,1,0;p0,2,0;p0,3,0;p0,4,0;p0,5,0;";
        dueFault(six + "l5,4,0,1;l4,5,0,1;", NONE);
        dueFault(six + "l5,6,0,1;", 42);
        dueFault(six + "l6,5,0,1;", 42);
    }

    static void promise04_towardIs0AwayIs1() {
        for (int side = 0; side <= 99; side++) {
            dueFault(TWO + "l0,1," + side + ",5;", side <= 1 ? NONE : 14);
        }
    }

    static void promise04_leaningsAre0To20() {
        for (int much = 0; much <= 99; much++) {
            dueFault(TWO + "l0,1,0," + much + ";", much <= 20 ? NONE : 14);
            dueFault(TWO + "l0,1,1," + much + ";", much <= 20 ? NONE : 14);
        }
    }

    static void promise04_aLeaningMayBeToldAgain() {
        dueFault(TWO + "l0,1,0,5;l0,1,0,5;l0,1,1,20;l1,0,0,0;", NONE);
    }

    static void promise04_itIsTheFirstLetterOfTheFirst() {
        dueFault("p9,0,0;x", 0);
        dueFault("p0,0,0;p9,0,0;p0,0,0;x", 7);
        dueFault("r6,6;p0,0,0;x;y;", 12);
        dueFault("r6,6;p0,0,0;p0,3,3,3;", 12);
        dueFault("r6,6;p0,0,0;p0,3,33;", 12);
    }

    static void promise04_itChangesNothing() {
        leaves("fault()", Check::busy, HeartVanes::fault, NONE);
        leaves("fault() with a FAULT", Promise04Test::withFault, HeartVanes::fault, 111);
        leaves("fault(), empty", HeartVanes::new, HeartVanes::fault, NONE);
    }

    /** What stands in THE TEXT, or in the part ahead of its FAULT, is no ROOM before it is LAID. */
    static void promise04_itLaysNothing() {
        String[] texts = {"r1,1;p2,0,0;", "r2,2;p2,0,0;p2,1,1;l0,1,0,20;", "r2,2;p3,0,0;p3,1,0;p3,0,1;x", "r1,1;", ""};
        for (String text : texts) {
            leaves("fault() of " + text, () -> busyWith(text), HeartVanes::fault, text.endsWith("x") ? text.length() - 1 : NONE);
        }
        leaves("fault() of 6 PERSONS, 2 being there", () -> twoWith(TEXT_OF_200.substring(0, 56)), HeartVanes::fault, NONE);
    }

    static void promise04_whateverIsAskedNextIsOfTheRoom() {
        List<Asked> questions = List.of(vanes -> vanes.toward(1), vanes -> vanes.looked(0), vanes -> vanes.looked(1),
                vanes -> vanes.behind(1, 5), HeartVanes::settled, vanes -> vanes.steps(5, 3, -1), vanes -> vanes.stand(2, 5, 0, 1),
                vanes -> vanes.marry(5), vanes -> vanes.marry(-1), vanes -> vanes.kinds(5), vanes -> vanes.loves(4, 1),
                vanes -> vanes.away(5, 4, 3, 0), vanes -> vanes.away(4, 1, 3, 1), vanes -> vanes.evening(3, 20, 0),
                vanes -> vanes.place(8, 7), vanes -> vanes.person(5, 4), vanes -> vanes.leaning(5, 2));
        String[] texts = {"r1,1;p2,0,0;", "r2,2;p2,0,0;p2,1,1;l0,1,0,20;", ""};
        for (String text : texts) {
            for (int i = 0; i < questions.size(); i++) {
                HeartVanes vanes = busyWith(text);
                vanes.fault();
                due("question " + i + " behind fault() of " + text, questions.get(i).answer(vanes), questions.get(i).answer(busy()));
            }
        }
    }

    private static HeartVanes busyWith(String text) {
        HeartVanes vanes = busy();
        vanes.wipe();
        writeAll(vanes, text);
        return vanes;
    }

    private static HeartVanes twoWith(String text) {
        HeartVanes vanes = two();
        vanes.wipe();
        writeAll(vanes, text);
        return vanes;
    }

    private static HeartVanes withFault() {
        HeartVanes vanes = busy();
        vanes.write('q');
        return vanes;
    }

    static void promise04_mendedByWipingAlone() {
        HeartVanes vanes = written("x");
        due("fault()", vanes.fault(), 0);
        writeAll(vanes, "p0,0,0;");
        due("fault() with more behind", vanes.fault(), 0);
        vanes.wipe();
        writeAll(vanes, "p0,0,0;");
        due("fault() anew", vanes.fault(), NONE);
        due("fault() asked again", vanes.fault(), NONE);
    }

    public static void main(String[] args) {
        runAll(Promise04Test.class);
    }
}
