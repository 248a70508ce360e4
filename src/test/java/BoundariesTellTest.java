/** Promises 1 to 4 at their boundaries: a new object, the text, and where it can't be told. */
public final class BoundariesTellTest {
    private static final String LETTERS = "iraoxmpge";
    private static final String SIXTEEN = "i0;".repeat(16);
    private static final String SIX_MARKS = "i0;i1;g0 1;e0 1;g1 0;e1 0;g0 1;e0 1;";
    private static final String USED_TEXT = "i0;r1 0;r1 1;x1 2;r1 3;g0 1;p0 7;p1 7;p2 9;";
    /** Used in all its parts: a circuit, NOW with one that is struck and one that leaks, images, what may be undone, letters. */
    private static final Run USED = new Run().tell(USED_TEXT).then("keep", 0).then("wishes", 0, 1).then("ticks", 7)
            .then("needs", 3).then("keep", 1).then("ticks", 7).write("i0; r");

    private BoundariesTellTest() {
    }

    public static void main(String[] args) throws ReflectiveOperationException {
        Checks.runAll(BoundariesTellTest.class, 1, 4);
    }

    // ---- promise 1

    static void promise1NoNodesNoMarks() {
        ClockCrossings x = new ClockCrossings();
        Checks.due("count(0)", x.count(0), 0);
        Checks.due("count(1)", x.count(1), 0);
        for (int what = 0; what < 8; what++) {
            Checks.due("node(0, " + what + ")", x.node(0, what), Checks.BAD);
        }
        for (int what = 0; what < 3; what++) {
            Checks.due("register(0, " + what + ")", x.register(0, what), Checks.BAD);
            Checks.due("when(0, " + what + ")", x.when(0, what), Checks.BAD);
        }
        Checks.due("wish(0)", x.wish(0), Checks.BAD);
        Checks.due("wishes(0, 1)", x.wishes(0, 1), Checks.BAD);
    }

    static void promise1PeriodsAre235AtFirst() {
        Checks.dueRow("periods", Checks.periods(new ClockCrossings()), 2, 3, 5);
    }

    static void promise1NeedIs2AtFirst() {
        Checks.due("count(2)", new ClockCrossings().count(2), 2);
        Checks.due("needs(2)", new ClockCrossings().needs(2), Checks.STATE);
    }

    static void promise1NowIsAsAtFirst() {
        Checks.dueRow("counts", Checks.counts(new ClockCrossings()), 0, 0, 2, 0, 0, 0, 0, 0);
    }

    static void promise1TheTextIsEmpty() {
        Checks.due("clear()", new ClockCrossings().clear(), 0);
        Checks.due("tells()", new ClockCrossings().tells(), 0);
        Checks.due("type(32)", new ClockCrossings().type(' '), 1);
    }

    static void promise1NothingCanBeUndoneNoImageIsKept() {
        Checks.due("undo()", new ClockCrossings().undo(), Checks.STATE);
        Checks.due("back(0)", new ClockCrossings().back(0), Checks.STATE);
        Checks.due("back(1)", new ClockCrossings().back(1), Checks.STATE);
    }

    static void promise1NothingIsCrossed() {
        ClockCrossings x = new ClockCrossings();
        Checks.due("crossing(-1)", x.crossing(-1), 0);
        Checks.due("crossing(0)", x.crossing(0), Checks.NONE);
        for (int kind = 0; kind < 4; kind++) {
            Checks.due("kinds(" + kind + ")", x.kinds(kind), 0);
        }
        Checks.due("join(-1, 0)", x.join(-1, 0), 0);
        for (int what = 0; what < 3; what++) {
            Checks.due("join(0, " + what + ")", x.join(0, what), Checks.NONE);
        }
        Checks.due("risk()", x.risk(), 0);
    }

    static void promise1WithoutNodesNeedAndTimeGoOn() {
        ClockCrossings x = new ClockCrossings();
        Checks.due("needs(4)", x.needs(4), 2);
        Checks.due("ticks(99)", x.ticks(99), 0);
        Checks.due("keep(1)", x.keep(1), 99);
        Checks.due("undo()", x.undo(), 1);
        Checks.due("undo()", x.undo(), 0);
        Checks.due("back(1)", x.back(1), 99);
        Checks.dueRow("counts", Checks.counts(x), 0, 0, 4, 99, 0, 0, 0, 0);
    }

    static void promise1IsAsBehindATextOfNothing() {
        Checks.dueAlike("tells() of nothing", new Run().then("tells"), new Run());
    }

    static void promise1ObjectsAreApart() {
        ClockCrossings one = new ClockCrossings();
        ClockCrossings other = new ClockCrossings();
        Checks.tell(one, "i0;r1 0;p0 1;p1 1;p2 1;g0 1;");
        one.wishes(0, 1);
        one.needs(4);
        one.ticks(3);
        one.keep(0);
        one.type('i');
        Checks.dueRow("counts", Checks.counts(other), 0, 0, 2, 0, 0, 0, 0, 0);
        Checks.dueRow("periods", Checks.periods(other), 2, 3, 5);
        Checks.dueRow("periods of one made later", Checks.periods(new ClockCrossings()), 2, 3, 5);
        Checks.due("back(0)", other.back(0), Checks.STATE);
        Checks.due("tells()", other.tells(), 0);
        Checks.due("tells() of the one", one.tells(), -11);
    }

    static void promise1ServesFor512Calls() {
        ClockCrossings x = new ClockCrossings();
        int calls = 0;
        for (; calls < 506; calls += 2) {
            Checks.due("type", x.type('i'), 1);
            Checks.due("clear", x.clear(), 1);
        }
        Checks.due("type", x.type('i'), 1);
        Checks.due("type", x.type('2'), 2);
        Checks.due("type", x.type(';'), 3);
        Checks.due("tells", x.tells(), 1);
        Checks.due("wishes", x.wishes(0, 1), 0);
        Checks.due("the 512th call", x.when(0, 1), 5);
    }

    // ---- promise 2

    static void promise2Letters0To255AreTaken() {
        for (int from = 0; from <= 255; from += 128) {
            ClockCrossings x = new ClockCrossings();
            for (int i = 0; i < 128; i++) {
                Checks.due("type(" + (from + i) + ")", x.type(from + i), i + 1);
            }
        }
    }

    static void promise2ALetterBelow0IsBad() {
        for (int letter : new int[] {-1, -2, 'i' - 256, 'i' - 65536, Checks.LEAST, Checks.LEAST + 'i'}) {
            Checks.dueUnchanged(new Run(), "type", letter, Checks.BAD);
            Checks.dueUnchanged(USED, "type", letter, Checks.BAD);
        }
    }

    static void promise2ALetterAbove255IsBad() {
        for (int letter : new int[] {256, 257, 256 + 'i', 65536 + 'i', Checks.MOST, Checks.MOST - 255 + 'i'}) {
            Checks.dueUnchanged(new Run(), "type", letter, Checks.BAD);
            Checks.dueUnchanged(USED, "type", letter, Checks.BAD);
        }
    }

    static void promise2AnswersHowManyUpTo160() {
        ClockCrossings x = new ClockCrossings();
        for (int many = 1; many <= 160; many++) {
            Checks.due("type, " + many, x.type(';'), many);
            Checks.due("count(6)", x.count(6), many);
        }
    }

    static void promise2The161stIsFull() {
        Run full = new Run().tell("i0;").often(160, "type", ' ');
        Checks.dueUnchanged(full, "type", ' ', Checks.FULL);
        Checks.dueUnchanged(full, "type", 0, Checks.FULL);
        Checks.dueUnchanged(full, "type", 255, Checks.FULL);
        Checks.dueUnchanged(full.then("type", 'z'), "type", 'z', Checks.FULL);
    }

    static void promise2BadIsAheadOfFull() {
        Run full = new Run().often(160, "type", ' ');
        for (int letter : new int[] {-1, 256, Checks.LEAST, Checks.MOST}) {
            Checks.dueUnchanged(full, "type", letter, Checks.BAD);
        }
    }

    static void promise2ARefusedLetterIsNotInTheText() {
        String text = "i2;" + " ".repeat(157);
        Run full = new Run().write(text).then("type", ';').then("type", 256);
        Checks.due("tells()", full.then("tells").answer(), 1);
        Checks.due("tells()", new Run().write("i2").then("type", 256 + '0').write(";").then("tells").answer(), 1);
    }

    static void promise2ThereIsRoomAgainBehindClearAndTells() {
        Run full = new Run().often(160, "type", ' ');
        Checks.due("type behind clear()", full.then("clear").then("type", 'i').answer(), 1);
        Checks.due("type behind tells()", full.then("tells").then("type", 'i').answer(), 1);
        Run faulty = new Run().often(160, "type", 'z').then("tells");
        Checks.due("tells()", faulty.answer(), -10);
        Checks.due("type behind a fault", faulty.then("type", 'i').answer(), Checks.FULL);
    }

    // ---- promise 3

    static void promise3AnEmptyTextHad0() {
        Checks.dueUnchanged(new Run(), "clear", 0);
        Checks.dueUnchanged(new Run().then("type", 'i').then("clear"), "clear", 0);
        Checks.dueUnchanged(new Run().tell("i0;").then("needs", 3).then("keep", 1), "clear", 0);
    }

    static void promise3AnswersHowManyItHadUpTo160() {
        for (int many : new int[] {1, 2, 159, 160}) {
            Run run = new Run().often(many, "type", 'z').then("clear");
            Checks.due("clear() of " + many, run.answer(), many);
            Checks.due("count(6)", run.then("count", 6).answer(), 0);
        }
        Checks.due("clear() behind a letter too many", new Run().often(161, "type", 'z').then("clear").answer(), 160);
    }

    static void promise3ChangesNothingButTheText() {
        Run ahead = new Run().tell("i0;r1 0;p0 1;p1 1;g0 1;").then("wishes", 0, 1).then("keep", 0).then("ticks", 1)
                .then("needs", 4);
        Checks.dueAlike("clear()", ahead.write("i0; z").then("clear"), ahead);
    }

    static void promise3WhatWasClearedIsNotTold() {
        Checks.due("tells()", new Run().write("i0;").then("clear").then("tells").answer(), 0);
        Checks.due("tells()", new Run().write("zzzzzz").then("clear").write("i0;").then("tells").answer(), 1);
        Checks.due("tells()", new Run().write("i0;i0;").then("clear").write("i0").then("tells").answer(), -12);
    }

    // ---- promise 4: tokens and blanks

    static void promise4NoItemsAreTold() {
        Checks.dueItems("", 0);
        Checks.dueItems(" ", 0);
        Checks.dueItems(" ".repeat(160), 0);
        Checks.dueAlike("a text of a blank", USED.then("clear").tell(" "), new Run());
    }

    static void promise4AnswersHowManyItems() {
        Checks.dueItems("i0;", 1);
        Checks.dueItems("p0 1;", 1);
        Checks.dueItems(SIX_MARKS, 8);
        Checks.dueItems("p0 1;".repeat(32), 32);
        Checks.dueItems(SIXTEEN + "g0 1;".repeat(6) + "p0 1;".repeat(16), 38);
    }

    static void promise4BlanksMayStandAroundTokens() {
        Checks.dueItems(" i 0 ; r 1 0 ; a 0 1 ; m 0 1 2 ; p 0 9 ; g 0 1 ; ", 6);
        Checks.dueItems("   i   0   ;   r   1   0   ;   ", 2);
        Checks.dueItems("i0;" + " ".repeat(157), 1);
        Checks.dueItems(" ".repeat(157) + "i0;", 1);
        Checks.dueItems("i" + " ".repeat(157) + "0;", 1);
        Checks.dueItems("i0" + " ".repeat(157) + ";", 1);
    }

    static void promise4BlanksAreNeededBetweenNumbersAlone() {
        Checks.dueItems("i0;i1;r2 1;a0 1;o0 1;x0 1;m0 1 2;p0 9;g0 1;e2 0;", 10);
        Checks.dueFault("i0;r10;", 4);
        Checks.dueFault("i0;r1 0;a01;", 9);
        Checks.dueFault("i0;r1 0;a10;", 9);
        Checks.dueFault("p09;", 1);
    }

    static void promise4ABlankEndsANumber() {
        String eleven = "i0;".repeat(11);
        Checks.dueItems(eleven + "r1 10;", 12);
        Checks.dueFault(eleven + "r1 1 0;", 38);
        Checks.dueFault("i 0 0;", 4);
    }

    static void promise4OnlyLetter32IsABlank() {
        for (int letter : new int[] {0, 9, 10, 11, 12, 13, 31, 33, 95, 133, 160, 255}) {
            Checks.dueFault("i0;" + (char) letter, 3);
            Checks.dueFault((char) letter + "i0;", 0);
            Checks.dueFault("i" + (char) letter + "0;", 1);
            Checks.dueFault("i0" + (char) letter + ";", 2);
        }
    }

    static void promise4EveryLetterAtFirst() {
        for (int letter = 0; letter <= 255; letter++) {
            String text = "" + (char) letter;
            if (letter == ' ') {
                Checks.dueItems(text, 0);
            } else {
                Checks.dueFault(text, LETTERS.indexOf(letter) >= 0 ? 1 : 0);
            }
        }
    }

    static void promise4EveryLetterBehindALetter() {
        for (int letter = 0; letter <= 255; letter++) {
            boolean mayStand = letter >= '0' && letter <= '2' || letter == ' ';
            Checks.dueFault("i" + (char) letter, mayStand ? 2 : 1);
        }
    }

    static void promise4EveryLetterBehindANumber() {
        for (int letter = 0; letter <= 255; letter++) {
            String text = "i1" + (char) letter;
            if (letter == ';') {
                Checks.dueItems(text, 1);
            } else if (letter == ' ') {
                Checks.dueFault(text, 3);
            } else {
                Checks.dueFault(text, letter >= '0' && letter <= '9' ? 1 : 2);
            }
        }
    }

    static void promise4EveryLetterBehindAnItem() {
        for (int letter = 0; letter <= 255; letter++) {
            String text = "i1;" + (char) letter;
            if (letter == ' ') {
                Checks.dueItems(text, 1);
            } else {
                Checks.dueFault(text, LETTERS.indexOf(letter) >= 0 ? 4 : 3);
            }
        }
    }

    static void promise4CapitalsAreNoTokens() {
        for (int i = 0; i < LETTERS.length(); i++) {
            Checks.dueFault("" + (char) (LETTERS.charAt(i) - 32) + "0;", 0);
        }
    }

    // ---- promise 4: numbers

    static void promise4ClocksAre0To2() {
        for (String ahead : new String[] {"i", "r", "p"}) {
            String behind = ahead.equals("i") ? ";" : ahead.equals("r") ? " 0;" : " 1;";
            for (int clock = 0; clock <= 2; clock++) {
                Checks.dueItems("i0;" + ahead + clock + behind, 2);
            }
            for (String clock : new String[] {"3", "4", "9", "10", "99", "100"}) {
                Checks.dueFault("i0;" + ahead + clock + behind, 4);
            }
        }
    }

    static void promise4TheClockIsTheOneTold() {
        ClockCrossings x = Checks.told("i0;i1;i2;r0 1;r1 2;r2 0;");
        for (int n = 0; n < 6; n++) {
            Checks.due("node(" + n + ", 1)", x.node(n, 1), n % 3);
        }
    }

    static void promise4PeriodsAre1To9() {
        for (int clock = 0; clock <= 2; clock++) {
            for (int period = 1; period <= 9; period++) {
                int[] want = {2, 3, 5};
                want[clock] = period;
                Checks.dueRow("periods", Checks.periods(Checks.told("p" + clock + " " + period + ";")), want);
            }
            for (String period : new String[] {"0", "10", "11", "19", "99", "100", "00", "01"}) {
                Checks.dueFault("p" + clock + " " + period + ";", 3);
            }
        }
    }

    static void promise4APeriodToldAgainIsTheLater() {
        Checks.dueRow("periods", Checks.periods(Checks.told("p0 9;p1 1;p0 1;p0 7;p1 9;")), 7, 9, 5);
        Checks.dueFault("p0 9;p0 10;", 8);
    }

    static void promise4PeriodsNotToldAreAsAtFirst() {
        ClockCrossings x = Checks.told("p0 9;p1 9;p2 9;");
        Checks.tell(x, "p1 4;");
        Checks.dueRow("periods", Checks.periods(x), 2, 4, 5);
        Checks.tell(x, "i0;");
        Checks.dueRow("periods", Checks.periods(x), 2, 3, 5);
    }

    static void promise4ANodeIsToldAhead() {
        String three = "i0;i1;i2;";
        String[] ahead = {"r1 ", "a", "a2 ", "o", "o2 ", "x", "x2 ", "m", "m2 ", "m2 2 "};
        String[] behind = {";", " 2;", ";", " 2;", ";", " 2;", ";", " 2 2;", " 2;", ";"};
        for (int i = 0; i < ahead.length; i++) {
            Checks.dueItems(three + ahead[i] + 0 + behind[i], 4);
            Checks.dueItems(three + ahead[i] + 2 + behind[i], 4);
            for (int n : new int[] {3, 4, 15, 16, 99, 100}) {
                Checks.dueFault(three + ahead[i] + n + behind[i], 9 + ahead[i].length());
            }
        }
    }

    static void promise4ANodeToldLaterIsNotAhead() {
        Checks.dueFault("i0;r0 2;i0;", 6);
        Checks.dueFault("r0 0;i0;", 3);
        Checks.dueFault("g0 1;i0;i0;", 1);
    }

    static void promise4NodesAreNumberedAsTheyAreTold() {
        ClockCrossings x = Checks.told("p0 1;i0;p0 2;i1;g0 1;e1 0;r2 1;p1 1;x2 0;");
        Checks.due("count(0)", x.count(0), 4);
        Checks.dueRow("what they are", new int[] {x.node(0, 0), x.node(1, 0), x.node(2, 0), x.node(3, 0)}, 0, 0, 1, 4);
        Checks.due("node(2, 2)", x.node(2, 2), 1);
        Checks.due("node(3, 2)", x.node(3, 2), 2);
        Checks.due("node(3, 3)", x.node(3, 3), 0);
    }

    static void promise4AGateMayHaveANodeTwice() {
        Checks.dueItems("i0;a0 0;o0 0;x1 1;m0 0 0;m1 2 1;", 6);
    }

    static void promise4ANumberAbove99() {
        for (String number : new String[] {"100", "101", "999", "1000", "256", "65536", "2147483647", "2147483648",
                "4294967296", "4294967297", "18446744073709551616", "18446744073709551617", "1" + "0".repeat(150)}) {
            Checks.dueFault("i" + number + ";", 1);
            Checks.dueFault("i0;r " + number + " 0;", 5);
            Checks.dueFault("i0;r1 " + number, 6);
            Checks.dueFault(number, 0);
            Checks.dueFault("i0;" + number, 3);
            Checks.dueFault("i0 " + number, 3);
        }
        Checks.dueFault("i" + "9".repeat(159), 1);
        Checks.dueFault("9".repeat(160), 0);
    }

    static void promise4A0AheadOfOthers() {
        for (String number : new String[] {"00", "01", "000", "001", "02", "010", "0".repeat(100), "0".repeat(100) + "1"}) {
            Checks.dueFault("i" + number + ";", 1);
            Checks.dueFault("i0;r1 " + number + ";", 6);
            Checks.dueFault("p0 " + number + ";", 3);
            Checks.dueFault("i0;g0 " + number + ";", 6);
        }
        Checks.dueItems("i0;r0 0;", 2);
        Checks.dueItems("i0;".repeat(11) + "r1 10;", 12);
    }

    // ---- promise 4: how many

    static void promise4SixteenNodes() {
        ClockCrossings x = Checks.told(SIXTEEN);
        Checks.due("count(0)", x.count(0), 16);
        Checks.due("node(15, 0)", x.node(15, 0), 0);
        Checks.due("node(16, 0)", x.node(16, 0), Checks.BAD);
        for (String last : new String[] {"i2;", "r2 14;", "a14 0;", "o0 14;", "x14 14;", "m14 13 12;"}) {
            Checks.dueItems("i0;".repeat(15) + last, 16);
        }
    }

    static void promise4TheLetterOfA17thNode() {
        for (String seventeenth : new String[] {"i0;", "r0 0;", "a0 0;", "o0 0;", "x0 0;", "m0 0 0;", "i", "r", "iz", "m9 99;", "a;"}) {
            Checks.dueFault(SIXTEEN + seventeenth, 48);
            Checks.dueFault("  " + SIXTEEN + "   " + seventeenth, 53);
        }
        Checks.dueFault(SIXTEEN + "p0 1;g0 1;i0;", 58);
    }

    static void promise4BehindSixteenNodesOthersMayStand() {
        Checks.dueItems(SIXTEEN + "p0 1;g0 15;e15 14;", 19);
        Checks.dueFault(SIXTEEN + "z", 48);
        Checks.dueFault(SIXTEEN + ";", 48);
    }

    static void promise4SixMarks() {
        Checks.due("count(1)", Checks.told(SIX_MARKS).count(1), 6);
        Checks.due("count(1)", Checks.told("i0;i1;" + "g0 1;".repeat(6)).count(1), 6);
        Checks.due("count(1)", Checks.told("i0;i1;" + "e0 1;".repeat(6)).count(1), 6);
        Checks.due("count(1)", Checks.told("i0;i1;" + "e0 1;".repeat(5)).count(1), 5);
        Checks.due("count(1)", Checks.told("i0;i1;").count(1), 0);
    }

    static void promise4TheLetterOfASeventhMark() {
        for (String seventh : new String[] {"g0 1;", "e0 1;", "g", "e", "gz", "e9 9;", "g0 0;", "e;"}) {
            Checks.dueFault(SIX_MARKS + seventh, 36);
            Checks.dueFault(SIX_MARKS + "  " + seventh, 38);
            Checks.dueFault("i0;i1;" + "g0 1;".repeat(6) + seventh, 36);
        }
        Checks.dueFault(SIX_MARKS + "p0 1;i0;e0 1;", 44);
    }

    static void promise4BehindSixMarksOthersMayStand() {
        Checks.dueItems(SIX_MARKS + "i0;p0 1;r1 0;", 11);
    }

    static void promise4MarksAreOfLeaves() {
        String nodes = "i0;r1 0;a0 1;o0 1;x0 1;m0 1 0;i1;";
        for (String mark : new String[] {"g", "e"}) {
            for (int leaf : new int[] {0, 1, 6}) {
                for (int gate : new int[] {2, 3, 4, 5}) {
                    Checks.dueFault(nodes + mark + gate + " " + leaf + ";", 34);
                    Checks.dueFault(nodes + mark + leaf + " " + gate + ";", 36);
                }
            }
            Checks.dueItems(nodes + mark + "0 1;" + mark + "1 6;" + mark + "6 0;", 10);
            Checks.dueFault(nodes + mark + "2 2;", 34);
            Checks.dueFault(nodes + mark + "7 0;", 34);
            Checks.dueFault(nodes + mark + "0 7;", 36);
            Checks.dueFault(nodes + mark + "0 99;", 36);
        }
    }

    static void promise4MarksAreOfUnlikeLeaves() {
        for (String mark : new String[] {"g", "e"}) {
            Checks.dueFault("i0;r1 0;" + mark + "0 0;", 11);
            Checks.dueFault("i0;r1 0;" + mark + "1   1;", 13);
            Checks.dueItems("i0;r1 0;" + mark + "1 0;", 3);
            Checks.dueItems("i0;r1 0;" + mark + "0 1;", 3);
        }
    }

    // ---- promise 4: what is no item, and what ends too early

    static void promise4EachItemIsEndedBy59() {
        String[] items = {"i0", "r1 0", "a0 0", "o0 0", "x0 0", "m0 0 0", "p0 1", "g0 1", "e0 1"};
        for (String item : items) {
            int end = 6 + item.length();
            Checks.dueItems("i0;i0;" + item + ";", 3);
            Checks.dueFault("i0;i0;" + item, end);
            Checks.dueFault("i0;i0;" + item + "i0;", end);
            Checks.dueFault("i0;i0;" + item + " 0;", end + 1);
            Checks.dueFault("i0;i0;" + item + ";;", end + 1);
            Checks.dueFault("i0;i0;" + item.substring(0, item.length() - 1) + ";", end - 1);
        }
    }

    static void promise4AnItemBeginsWithALetter() {
        Checks.dueFault(";", 0);
        Checks.dueFault("  ;", 2);
        Checks.dueFault("0", 0);
        Checks.dueFault("i0;0;", 3);
        Checks.dueFault("i0; ;", 4);
    }

    static void promise4TheTextEndsTooEarly() {
        String text = "i0;r1 0;a0 1;o0 1;x0 1;m0 1 0;p0 9;g0 1;e1 0;";
        int items = 0;
        boolean atItemsEnd = true;
        for (int length = 0; length <= text.length(); length++) {
            if (length > 0 && text.charAt(length - 1) != ' ') {
                atItemsEnd = text.charAt(length - 1) == ';';
                items += atItemsEnd ? 1 : 0;
            }
            for (int blanks = 0; blanks < 4; blanks++) {
                String cut = text.substring(0, length) + " ".repeat(blanks);
                if (atItemsEnd) {
                    Checks.dueItems(cut, items);
                } else {
                    Checks.dueFault(cut, cut.length());
                }
            }
        }
    }

    static void promise4AFaultAtTheEndOfAFullText() {
        Checks.dueItems("p0 1;".repeat(31) + "p0 1;", 32);
        Checks.dueFault("p0 1;".repeat(31) + "p0 1z", 159);
        Checks.dueFault("p0 1;".repeat(31) + "p0 1 ", 160);
        Checks.dueFault("p0 1;".repeat(31) + "p0 10", 158);
        Checks.dueFault(" ".repeat(159) + "z", 159);
        Checks.dueFault(" ".repeat(159) + "i", 160);
        Checks.dueFault("z" + " ".repeat(159), 0);
    }

    static void promise4TheFirstTokenThatCantStandThere() {
        Checks.dueFault("i3;z", 1);
        Checks.dueFault("i0;r3 9;", 4);
        Checks.dueFault("i0;r0 9 z", 6);
        Checks.dueFault("i0;m0 1 100;", 6);
        Checks.dueFault("i0;g0 0 00;", 6);
        Checks.dueFault("i0 z;", 3);
        Checks.dueFault("i z 100", 2);
        Checks.dueFault("i 100 z", 2);
    }

    // ---- promise 4: what becomes of all

    static void promise4AFaultChangesNothing() {
        String[] faulty = {"z", "i", "i0;p0 9;p1 9;z", "i0;i0;i0;g0 1;r1 9;", SIXTEEN + "i0;", SIX_MARKS + "g0 1;", "p2 1;;"};
        int[] places = {0, 1, 13, 17, 48, 36, 5};
        for (int i = 0; i < faulty.length; i++) {
            Checks.dueUnchanged(new Run().write(faulty[i]), "tells", -10 - places[i]);
            Checks.dueUnchanged(USED.then("clear").write(faulty[i]), "tells", -10 - places[i]);
        }
    }

    static void promise4TheTextStaysAndMayBeEnded() {
        Run run = new Run().write("i").then("tells");
        Checks.due("tells()", run.answer(), -11);
        run = run.write("0").then("tells");
        Checks.due("tells()", run.answer(), -12);
        run = run.write(";").then("tells");
        Checks.due("tells()", run.answer(), 1);
        Checks.due("count(6)", run.then("count", 6).answer(), 0);
        Checks.due("count(0)", run.then("count", 0).answer(), 1);
    }

    static void promise4TheTextIsEmptyThen() {
        Run run = new Run().tell("i0;i1;g0 1;");
        Checks.due("count(6)", run.then("count", 6).answer(), 0);
        Checks.due("tells() again", run.then("tells").answer(), 0);
        Checks.dueAlike("tells() again", run.then("tells"), new Run());
    }

    /** The same text tells the same, whatever was told ahead of it, one text or two. */
    static void promise4AllIsToldAnew() {
        String[] texts = {"", "i2;", "i1;r0 0;a0 1;", "i0;i0;r1 0;r1 1;x2 3;g0 1;", "i0;i0;r1 0;r1 1;x2 3;",
            "i0;i0;r1 0;r1 1;r1 2;r1 3;", "p0 9;i0;a0 0;r1 1;", "i0;r1 0;r1 1;i1;i0;m2 3 4;r1 5;", SIXTEEN};
        for (String text : texts) {
            Run alone = new Run().tell(text);
            Checks.dueAlike("a text told anew: " + text, USED.then("clear").tell(text), alone);
            for (String ahead : texts) {
                Checks.dueAlike(ahead + " and then " + text, new Run().tell(ahead).tell(text), alone);
                Checks.dueAlike(ahead + " and an input and then " + text, new Run().tell(ahead).tell("i0;").tell(text), alone);
            }
        }
    }

    static void promise4ATextToldNeed2NowAsAtFirst() {
        Checks.dueRow("counts", Checks.counts(USED.made()), 5, 1, 3, 14, 1, 1, 5, 4);
        ClockCrossings x = USED.then("clear").tell(USED_TEXT).made();
        Checks.dueRow("counts", Checks.counts(x), 5, 1, 2, 0, 0, 0, 0, 0);
        Checks.dueRow("values", Checks.values(x), 0, 0, 0, 0, 0);
        Checks.due("wish(0)", x.wish(0), 0);
    }

    static void promise4ATextToldImagesAreGone() {
        Run told = USED.then("clear").tell("i0;");
        Checks.due("back(0)", told.then("back", 0).answer(), Checks.STATE);
        Checks.due("back(1)", told.then("back", 1).answer(), Checks.STATE);
    }

    static void promise4ATextToldNothingCanBeUndone() {
        Checks.due("undo()", USED.then("undo").answer(), 3);
        Checks.due("undo()", USED.then("clear").tell("i0;").then("undo").answer(), Checks.STATE);
        Checks.due("undo()", USED.then("clear").then("tells").then("undo").answer(), Checks.STATE);
    }
}
