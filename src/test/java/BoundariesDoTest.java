/** Promises 5 to 8 at their boundaries: NEED, WISHES, TICKS, and what is undone. */
public final class BoundariesDoTest {
    private static final int[] FAR = {Checks.LEAST, Checks.LEAST + 1, Checks.MOST - 1, Checks.MOST};
    /** Node 0 an input, 1 its register over the clocks, 2 behind that, 3 a gate; both clocks have an edge at each tick. */
    private static final Run ROW = new Run().tell("i0;r1 0;r1 1;a0 2;p0 1;p1 1;");

    private BoundariesDoTest() {
    }

    public static void main(String[] args) throws ReflectiveOperationException {
        Checks.runAll(BoundariesDoTest.class, 5, 8);
    }

    /** A run that stands at this TIME. */
    private static Run at(Run run, int time) {
        Run there = run.often(time / 99, "ticks", 99);
        return time % 99 == 0 ? there : there.then("ticks", time % 99);
    }

    // ---- promise 5

    static void promise5NeedIs2To4() {
        for (int from = 2; from <= 4; from++) {
            for (int to = 2; to <= 4; to++) {
                Run run = ROW.then("needs", from);
                if (from == to) {
                    Checks.dueUnchanged(run, "needs", to, Checks.STATE);
                } else {
                    Checks.due("needs(" + to + ")", run.then("needs", to).answer(), from);
                    Checks.due("count(2)", run.then("needs", to).then("count", 2).answer(), to);
                }
            }
        }
    }

    static void promise5Below2AndAbove4IsBad() {
        for (int n : new int[] {1, 0, -1, -2, 5, 6, 99}) {
            Checks.dueUnchanged(new Run(), "needs", n, Checks.BAD);
            Checks.dueUnchanged(ROW.then("needs", 4).then("ticks", 1), "needs", n, Checks.BAD);
        }
        for (int n : FAR) {
            Checks.dueUnchanged(new Run(), "needs", n, Checks.BAD);
        }
    }

    static void promise5ItIsThat() {
        Checks.dueUnchanged(new Run(), "needs", 2, Checks.STATE);
        Checks.dueUnchanged(ROW.then("needs", 3), "needs", 3, Checks.STATE);
        Checks.dueUnchanged(ROW.then("needs", 3).then("undo"), "needs", 2, Checks.STATE);
        Checks.dueUnchanged(ROW.then("keep", 0).then("needs", 4).then("back", 0), "needs", 2, Checks.STATE);
        Checks.dueUnchanged(ROW.then("needs", 4).then("tells"), "needs", 2, Checks.STATE);
    }

    static void promise5SafeIfDepthIsNeedOrMore() {
        String row = "i0;r1 0;";
        for (int depth = 1; depth <= 5; depth++) {
            for (int need = 2; need <= 4; need++) {
                ClockCrossings x = Checks.told(row);
                x.needs(need);
                Checks.due("DEPTH", x.register(1, 1), depth);
                Checks.due("KIND of DEPTH " + depth + ", NEED " + need, x.register(1, 2), depth >= need ? 0 : 1);
            }
            row = row + "r1 " + depth + ";";
        }
    }

    static void promise5ChangesNothingButNeed() {
        Run ahead = ROW.then("wishes", 0, 1).then("ticks", 1);
        ClockCrossings x = ahead.then("needs", 4).made();
        Checks.dueRow("counts", Checks.counts(x), 4, 0, 4, 1, 1, 0, 0, 3);
        Checks.dueRow("values", Checks.values(x), 1, 2, 0, 0);
        Checks.dueAlike("needs(4), undo()", ahead.then("needs", 4).then("undo"), ahead);
    }

    // ---- promise 6

    static void promise6AWishIs0Or1() {
        Checks.due("wishes(0, 1)", ROW.then("wishes", 0, 1).answer(), 0);
        Checks.due("wishes(0, 0)", ROW.then("wishes", 0, 1).then("wishes", 0, 0).answer(), 1);
        for (int v : new int[] {-1, -2, 2, 3, Checks.LEAST, Checks.LEAST + 1, Checks.MOST - 1, Checks.MOST}) {
            Checks.dueUnchanged(ROW, "wishes", 0, v, Checks.BAD);
            Checks.dueUnchanged(ROW.then("wishes", 0, 1), "wishes", 0, v, Checks.BAD);
        }
    }

    static void promise6ItIsThat() {
        Checks.dueUnchanged(ROW, "wishes", 0, 0, Checks.STATE);
        Checks.dueUnchanged(ROW.then("wishes", 0, 1), "wishes", 0, 1, Checks.STATE);
        Checks.dueUnchanged(ROW.then("wishes", 0, 1).then("ticks", 5), "wishes", 0, 1, Checks.STATE);
        Checks.dueUnchanged(ROW.then("wishes", 0, 1).then("undo"), "wishes", 0, 0, Checks.STATE);
    }

    static void promise6NoInputIsBad() {
        Run all = new Run().tell("i0;r1 0;a0 1;o0 1;x0 1;m0 1 0;i2;");
        for (int n = 1; n <= 5; n++) {
            for (int v = 0; v <= 1; v++) {
                Checks.dueUnchanged(all, "wishes", n, v, Checks.BAD);
            }
        }
        Checks.due("wishes(6, 1)", all.then("wishes", 6, 1).answer(), 0);
    }

    static void promise6NoNodeIsBad() {
        Run one = new Run().tell("i0;");
        for (int v = 0; v <= 1; v++) {
            for (int n : new int[] {-1, 1, 2, 15, 16, 31, 32, 256, Checks.LEAST, Checks.MOST}) {
                Checks.dueUnchanged(one, "wishes", n, v, Checks.BAD);
            }
            Checks.dueUnchanged(new Run(), "wishes", 0, v, Checks.BAD);
            Checks.dueUnchanged(new Run().tell("i0;".repeat(16)), "wishes", 16, v, Checks.BAD);
        }
    }

    static void promise6TheFirstAndTheLastOf16Inputs() {
        Run sixteen = new Run().tell("i0;".repeat(16));
        for (int n : new int[] {0, 15}) {
            ClockCrossings x = sixteen.then("wishes", n, 1).made();
            for (int other = 0; other < 16; other++) {
                Checks.due("wish(" + other + ")", x.wish(other), other == n ? 1 : 0);
            }
        }
    }

    static void promise6AnInputOfFewerNodesThanBeforeIsBad() {
        Run fewer = new Run().tell("i0;i0;i0;").then("wishes", 2, 1).tell("i0;i0;");
        Checks.dueUnchanged(fewer, "wishes", 2, 0, Checks.BAD);
        Checks.dueUnchanged(fewer, "wishes", 2, 1, Checks.BAD);
    }

    static void promise6TheValueStaysUntilAnEdge() {
        ClockCrossings x = Checks.told("i2;");
        x.wishes(0, 1);
        for (int time = 0; time < 5; time++) {
            Checks.due("value at " + time, x.node(0, 7), 0);
            x.ticks(1);
        }
        Checks.due("value at 5", x.node(0, 7), 1);
    }

    static void promise6OnlyTheLastWishAheadOfAnEdgeCounts() {
        ClockCrossings x = Checks.told("i2;");
        x.wishes(0, 1);
        x.ticks(4);
        x.wishes(0, 0);
        x.ticks(1);
        Checks.due("value", x.node(0, 7), 0);
    }

    // ---- promise 7: how many

    static void promise7TicksAre1To99() {
        for (int n : new int[] {1, 2, 98, 99}) {
            Checks.due("ticks(" + n + ")", ROW.then("ticks", n).answer(), 0);
            Checks.due("TIME", ROW.then("ticks", n).then("count", 3).answer(), n);
        }
    }

    static void promise7Below1AndAbove99IsBad() {
        for (int n : new int[] {0, -1, -99, 100, 101, 999, 1000}) {
            Checks.dueUnchanged(ROW.then("wishes", 0, 1), "ticks", n, Checks.BAD);
        }
        for (int n : FAR) {
            Checks.dueUnchanged(ROW.then("wishes", 0, 1), "ticks", n, Checks.BAD);
        }
    }

    static void promise7TimeIs999AtMost() {
        for (int n : new int[] {1, 2, 50, 98, 99}) {
            Run last = at(ROW, 999 - n);
            Checks.due("ticks(" + n + ")", last.then("ticks", n).answer(), 0);
            Checks.due("TIME", last.then("ticks", n).then("count", 3).answer(), 999);
        }
    }

    static void promise7TimeWouldBeAbove999() {
        for (int n : new int[] {1, 2, 50, 98, 99}) {
            Checks.dueUnchanged(at(ROW, 1000 - n).then("wishes", 0, 1), "ticks", n, Checks.STATE);
            Checks.dueUnchanged(at(ROW, 999).then("wishes", 0, 1), "ticks", n, Checks.STATE);
        }
    }

    static void promise7BadIsAheadOfState() {
        for (int n : new int[] {0, -1, 100, Checks.LEAST, Checks.MOST, Checks.MOST - 998}) {
            Checks.dueUnchanged(at(ROW, 999), "ticks", n, Checks.BAD);
        }
    }

    static void promise7TicksAgainBehindUndoAndBack() {
        Run end = at(ROW.then("keep", 0), 999);
        Checks.due("ticks(1)", end.then("undo").then("ticks", 1).answer(), 0);
        Checks.due("ticks(99)", end.then("back", 0).then("ticks", 99).answer(), 0);
    }

    static void promise7NTicksAreNTimesOne() {
        Run struck = ROW.then("wishes", 0, 1);
        for (int n : new int[] {2, 3, 7}) {
            ClockCrossings once = struck.then("ticks", n).made();
            ClockCrossings often = struck.often(n, "ticks", 1).made();
            Checks.dueRow("values", Checks.values(once), Checks.values(often));
            for (int what = 3; what <= 5; what++) {
                Checks.due("count(" + what + ")", once.count(what), often.count(what));
            }
        }
    }

    static void promise7AnswersHowOftenStruckByThem() {
        Checks.due("none", ROW.then("ticks", 99).answer(), 0);
        Run once = ROW.then("wishes", 0, 1).then("ticks", 1);
        Checks.due("once", once.answer(), 1);
        Checks.due("not those before", once.then("ticks", 9).answer(), 0);
        Checks.due("STRUCK", once.then("ticks", 9).then("count", 4).answer(), 1);
        Run twice = once.then("wishes", 0, 0).then("ticks", 1);
        Checks.due("once more", twice.answer(), 1);
        Checks.due("STRUCK", twice.then("count", 4).answer(), 2);
        Run many = new Run().tell("i0;" + "r1 0;".repeat(15) + "p0 1;p1 1;").then("wishes", 0, 1).then("ticks", 99);
        Checks.due("fifteen", many.answer(), 15);
    }

    // ---- promise 7: edges

    static void promise7APeriodDividesTime() {
        for (int clock = 0; clock < 3; clock++) {
            for (int period = 1; period <= 9; period++) {
                ClockCrossings x = Checks.told("i" + clock + ";p" + clock + " " + period + ";");
                for (int time = 1; time <= 20; time++) {
                    int was = x.node(0, 7);
                    x.wishes(0, 1 - was);
                    x.ticks(1);
                    Checks.due("value at " + time + " by " + period, x.node(0, 7), time % period == 0 ? 1 - was : was);
                    if (time % period != 0) {
                        x.wishes(0, was);
                    }
                }
            }
        }
    }

    static void promise7TheLastTickHasItsEdges() {
        for (int period = 1; period <= 9; period++) {
            Run end = at(new Run().tell("i0;p0 " + period + ";"), 998).then("wishes", 0, 1).then("ticks", 1);
            Checks.due("value at 999 by " + period, end.then("node", 0, 7).answer(), 999 % period == 0 ? 1 : 0);
        }
    }

    static void promise7AllLeavesAtOnce() {
        ClockCrossings x = Checks.told("i0;r0 0;r0 1;r0 2;a0 3;p0 1;");
        x.wishes(0, 1);
        int[][] want = {{1, 0, 0, 0, 0}, {1, 1, 0, 0, 0}, {1, 1, 1, 0, 0}, {1, 1, 1, 1, 1}};
        for (int[] row : want) {
            Checks.due("ticks(1)", x.ticks(1), 0);
            Checks.dueRow("values", Checks.values(x), row);
        }
    }

    static void promise7ByValuesAheadOfTheTick() {
        ClockCrossings x = Checks.told("i1;i1;a0 1;r1 2;p1 1;");
        x.wishes(0, 1);
        x.wishes(1, 1);
        Checks.due("own leaves strike no register", x.ticks(1), 0);
        Checks.dueRow("values", Checks.values(x), 1, 1, 1, 0);
        x.ticks(1);
        Checks.dueRow("values", Checks.values(x), 1, 1, 1, 1);
    }

    static void promise7LeavesOfOtherClocksStay() {
        ClockCrossings x = Checks.told("i0;i1;i2;p0 2;p1 3;p2 5;");
        for (int n = 0; n < 3; n++) {
            x.wishes(n, 1);
        }
        int[][] want = {{0, 0, 0}, {1, 0, 0}, {1, 1, 0}, {1, 1, 0}, {1, 1, 1}};
        for (int[] row : want) {
            x.ticks(1);
            Checks.dueRow("values", Checks.values(x), row);
        }
    }

    // ---- promise 7: registers

    static void promise7StruckIfAForeignBecomesAnother() {
        Run run = new Run().tell("i0;r1 0;p0 2;p1 3;").then("wishes", 0, 1);
        Checks.due("no edge at once", run.then("ticks", 5).answer(), 0);
        Checks.dueRow("values", Checks.values(run.then("ticks", 5).made()), 1, 1);
        Checks.due("an edge of both, nothing changes", run.then("ticks", 5).then("ticks", 1).answer(), 0);
        Run changed = run.then("ticks", 5).then("wishes", 0, 0).then("ticks", 1);
        Checks.due("an edge of both, it changes", changed.answer(), 1);
        Checks.dueRow("values", Checks.values(changed.made()), 0, 2);
    }

    static void promise7OneOfItsForeignIsEnoughAndStrikesOnce() {
        String text = "i0;i0;a0 1;r1 2;p0 1;p1 1;";
        Run one = new Run().tell(text).then("wishes", 1, 1).then("ticks", 1);
        Checks.due("one of two, the gate stays 0", one.answer(), 1);
        Checks.dueRow("values", Checks.values(one.made()), 0, 1, 0, 2);
        Run both = new Run().tell(text).then("wishes", 0, 1).then("wishes", 1, 1).then("ticks", 1);
        Checks.due("both", both.answer(), 1);
        Checks.due("STRUCK", both.then("count", 4).answer(), 1);
    }

    static void promise7OwnLeavesDoNotStrike() {
        Run own = new Run().tell("i0;i1;o0 1;r1 2;p0 1;p1 1;").then("wishes", 1, 1).then("ticks", 1);
        Checks.due("its own clock's alone", own.answer(), 0);
        Checks.dueRow("values", Checks.values(own.made()), 0, 1, 1, 0);
        Run both = new Run().tell("i0;i1;o0 1;r1 2;p0 1;p1 1;").then("wishes", 0, 1).then("ticks", 1);
        Checks.due("the other clock's", both.answer(), 1);
    }

    static void promise7FromUnknownToKnownIsAnother() {
        ClockCrossings x = Checks.told("i0;r1 0;r2 1;p0 1;p1 1;p2 1;");
        x.wishes(0, 1);
        Checks.due("0 becomes 2", x.ticks(1), 2);
        Checks.dueRow("values", Checks.values(x), 1, 2, 2);
        Checks.due("2 becomes 1", x.ticks(1), 1);
        Checks.dueRow("values", Checks.values(x), 1, 1, 2);
        Checks.due("1 stays", x.ticks(1), 0);
        Checks.dueRow("values", Checks.values(x), 1, 1, 1);
    }

    static void promise7FromUnknownToUnknownIsNoOther() {
        ClockCrossings x = Checks.told("i0;r1 0;r2 1;p0 1;p1 1;p2 1;");
        x.wishes(0, 1);
        x.ticks(1);
        x.wishes(0, 0);
        Checks.due("register 1 again, not 2", x.ticks(1), 1);
        Checks.dueRow("values", Checks.values(x), 0, 2, 2);
        Checks.due("LEAKED: 2 took what 1 was", x.count(5), 1);
    }

    static void promise7SettlesByTheNodeOfItsNode() {
        for (int v = 0; v <= 1; v++) {
            Run run = ROW.then("wishes", 0, 1 - v).then("wishes", 0, v).then("ticks", 9);
            Run struck = run.then("wishes", 0, 1 - v).then("ticks", 1);
            Checks.dueRow("struck", Checks.values(struck.made()), 1 - v, 2, v, 0);
            ClockCrossings settled = struck.then("ticks", 1).made();
            Checks.dueRow("settled", Checks.values(settled), 1 - v, 1 - v, 1 - v, 1 - v);
            Checks.due("LEAKED", settled.count(5), 0);
            ClockCrossings again = struck.then("wishes", 0, v).then("ticks", 1).made();
            Checks.dueRow("settled while struck again", Checks.values(again), v, 2, 1 - v, 0);
        }
    }

    /** The clocks have no edge together until 6, so nothing is struck: each register is a whole edge behind its node. */
    static void promise7WhatItsNodeWasIfThatIsKnown() {
        ClockCrossings x = Checks.told("i0;r1 0;r1 1;r1 2;p0 2;p1 3;");
        x.wishes(0, 1);
        int[][] want = {{0, 0, 0, 0}, {1, 0, 0, 0}, {1, 1, 0, 0}, {1, 1, 0, 0}, {1, 1, 0, 0}, {1, 1, 1, 0}, {1, 1, 1, 0}, {1, 1, 1, 0}, {1, 1, 1, 1}};
        for (int[] row : want) {
            Checks.due("ticks(1)", x.ticks(1), 0);
            Checks.dueRow("values at " + x.count(3), Checks.values(x), row);
        }
        Checks.dueRow("counts", Checks.counts(x), 4, 0, 2, 9, 0, 0, 0, 6);
    }

    /** SAFE is a matter of KIND alone: what a tick does is the same by each NEED, and whether one or two have the register. */
    static void promise7IsTheSameByEachNeed() {
        for (int need = 2; need <= 4; need++) {
            Run run = new Run().tell("i0;r1 0;r1 1;r1 2;i1;m2 4 0;r1 5;r1 1;p0 1;p1 1;").then("needs", need).then("wishes", 0, 1);
            ClockCrossings x = run.made();
            Checks.due("struck: " + need, x.ticks(1), 2);
            Checks.dueRow("values", Checks.values(x), 1, 2, 0, 0, 0, 0, 2, 0);
            Checks.due("settled: " + need, x.ticks(1), 0);
            Checks.dueRow("values", Checks.values(x), 1, 1, 1, 0, 0, 1, 0, 1);
            Checks.due("at rest: " + need, x.ticks(1), 0);
            Checks.dueRow("values", Checks.values(x), 1, 1, 1, 1, 0, 1, 1, 1);
            Checks.due("LEAKED", x.count(5), 0);
        }
        for (int need = 2; need <= 4; need++) {
            ClockCrossings x = Checks.told("i0;r1 0;r1 1;r1 2;r1 3;i1;m4 5 0;r1 6;p0 1;p1 1;");
            x.needs(need);
            x.wishes(0, 1);
            Checks.dueRow("kinds", new int[] {x.register(1, 2), x.register(7, 2)}, 0, 2);
            Checks.due("a safe and a held one are struck: " + need, x.ticks(1), 2);
            Checks.dueRow("values", Checks.values(x), 1, 2, 0, 0, 0, 0, 0, 2);
        }
    }

    static void promise7Settles0IfThatWasUnknown() {
        ClockCrossings x = Checks.told("i0;r1 0;r2 1;r2 2;p0 1;p1 1;p2 1;");
        x.wishes(0, 1);
        x.ticks(99);
        Checks.dueRow("values", Checks.values(x), 1, 1, 1, 1);
        x.wishes(0, 0);
        x.ticks(1);
        Checks.dueRow("values", Checks.values(x), 0, 2, 2, 1);
        x.ticks(1);
        Checks.dueRow("values", Checks.values(x), 0, 0, 2, 0);
        Checks.due("LEAKED", x.count(5), 0);
    }

    static void promise7DoesNotSettleByACrossingThatIsNotDirect() {
        ClockCrossings x = Checks.told("i0;i1;o0 1;r1 2;r1 3;r1 4;p0 1;p1 1;");
        x.wishes(0, 1);
        int[][] want = {{1, 0, 1, 2, 0, 0}, {1, 0, 1, 1, 2, 0}, {1, 0, 1, 1, 1, 2}, {1, 0, 1, 1, 1, 1}};
        int[] leaked = {0, 1, 2, 2};
        for (int i = 0; i < want.length; i++) {
            Checks.due("ticks(1)", x.ticks(1), i == 0 ? 1 : 0);
            Checks.dueRow("values", Checks.values(x), want[i]);
            Checks.due("LEAKED", x.count(5), leaked[i]);
        }
    }

    static void promise7DoesNotSettleByAnotherClock() {
        ClockCrossings x = Checks.told("i0;r1 0;r2 1;p0 2;p1 2;p2 3;");
        x.wishes(0, 1);
        Checks.due("struck", x.ticks(2), 1);
        Checks.due("not struck", x.ticks(1), 0);
        Checks.dueRow("values", Checks.values(x), 1, 2, 2);
        Checks.due("LEAKED", x.count(5), 1);
    }

    static void promise7DoesNotSettleThroughAGate() {
        ClockCrossings x = Checks.told("i0;r1 0;a1 1;r1 2;i1;a1 4;r1 5;p0 1;p1 1;");
        x.wishes(0, 1);
        x.ticks(1);
        Checks.dueRow("values", Checks.values(x), 1, 2, 2, 0, 0, 0, 0);
        x.ticks(1);
        Checks.dueRow("values", Checks.values(x), 1, 1, 1, 2, 0, 0, 0);
        Checks.due("LEAKED", x.count(5), 1);
    }

    static void promise7EachRegisterLeaksAtEachEdge() {
        Run run = new Run().tell("i0;r1 0;r2 1;r2 1;r2 1;p0 9;p1 9;p2 2;").then("wishes", 0, 1).then("ticks", 9);
        Checks.due("LEAKED", run.then("count", 5).answer(), 0);
        Checks.due("LEAKED at 10", run.then("ticks", 1).then("count", 5).answer(), 3);
        Checks.due("LEAKED at 11", run.then("ticks", 2).then("count", 5).answer(), 3);
        Checks.due("LEAKED at 12", run.then("ticks", 3).then("count", 5).answer(), 6);
        Checks.due("LEAKED at 17", run.then("ticks", 8).then("count", 5).answer(), 12);
        Checks.due("STRUCK at 18", run.then("ticks", 9).answer(), 3);
        Checks.due("LEAKED at 18", run.then("ticks", 9).then("count", 5).answer(), 12);
    }

    static void promise7AStruckRegisterDoesNotLeak() {
        ClockCrossings x = Checks.told("i0;r1 0;x0 1;r2 2;p0 1;p1 1;p2 1;");
        x.wishes(0, 1);
        Checks.due("both struck", x.ticks(1), 2);
        Checks.due("struck by 1, which settles; its node was 2", x.ticks(1), 1);
        Checks.due("LEAKED", x.count(5), 0);
        Checks.due("at rest", x.ticks(1), 0);
        Checks.dueRow("values", Checks.values(x), 1, 1, 0, 0);
    }

    // ---- promise 7: gates

    /** Three registers, each brought to 0, 1 or 2, and all gates of them. */
    static void promise7GatesOfAllValues() {
        for (int all = 0; all < 27; all++) {
            int[] v = {all % 3, all / 3 % 3, all / 9};
            ClockCrossings x = Checks.told("i0;i0;i0;r1 0;r1 1;r1 2;m3 4 5;a3 4;o3 4;x3 4;p0 1;p1 1;");
            for (int n = 0; n < 3; n++) {
                x.wishes(n, v[n] == 1 ? 1 : 0);
            }
            x.ticks(3);
            for (int n = 0; n < 3; n++) {
                if (v[n] == 2) {
                    x.wishes(n, 1);
                }
            }
            x.ticks(1);
            Checks.dueRow("registers", new int[] {x.node(3, 7), x.node(4, 7), x.node(5, 7)}, v);
            int choice = v[0] == 0 ? v[1] : v[0] == 1 ? v[2] : v[1] == v[2] ? v[1] : 2;
            int and = v[0] == 0 || v[1] == 0 ? 0 : v[0] == 2 || v[1] == 2 ? 2 : 1;
            int or = v[0] == 1 || v[1] == 1 ? 1 : v[0] == 2 || v[1] == 2 ? 2 : 0;
            int xor = v[0] == 2 || v[1] == 2 ? 2 : v[0] != v[1] ? 1 : 0;
            Checks.dueRow("gates", new int[] {x.node(6, 7), x.node(7, 7), x.node(8, 7), x.node(9, 7)}, choice, and, or, xor);
        }
    }

    // ---- promise 8

    static void promise8None() {
        Checks.dueUnchanged(new Run(), "undo", Checks.STATE);
        Checks.dueUnchanged(ROW, "undo", Checks.STATE);
        Checks.dueUnchanged(ROW.then("needs", 3).then("undo"), "undo", Checks.STATE);
        Checks.dueUnchanged(ROW.then("needs", 3).then("keep", 0).then("back", 0), "undo", Checks.STATE);
        Checks.dueUnchanged(ROW.then("needs", 3).then("tells"), "undo", Checks.STATE);
    }

    static void promise8AllIsAsAheadOfIt() {
        Run[] aheads = {new Run(), ROW, ROW.then("wishes", 0, 1).then("ticks", 1).write("i0;"), at(ROW.then("keep", 1), 99)};
        for (Run ahead : aheads) {
            Checks.dueAlike("needs(4), undo()", ahead.then("needs", 4).then("undo"), ahead);
            Checks.dueAlike("ticks(1), undo()", ahead.then("ticks", 1).then("undo"), ahead);
            Checks.dueAlike("ticks(99), undo()", ahead.then("ticks", 99).then("undo"), ahead);
        }
        Checks.dueAlike("wishes(0, 1), undo()", ROW.then("wishes", 0, 1).then("undo"), ROW);
        Run wished = ROW.then("wishes", 0, 1).then("ticks", 1);
        Checks.dueAlike("wishes(0, 0), undo()", wished.then("wishes", 0, 0).then("undo"), wished);
    }

    static void promise8SixAreKnown() {
        for (int many = 1; many <= 9; many++) {
            Run run = ROW.often(many, "ticks", 1);
            int known = Math.min(6, many);
            Checks.due("count(7)", run.then("count", 7).answer(), known);
            for (int left = known - 1; left >= 0; left--) {
                run = run.then("undo");
                Checks.due("undo()", run.answer(), left);
                Checks.due("TIME", run.then("count", 3).answer(), many - known + left);
            }
            Checks.dueUnchanged(run, "undo", Checks.STATE);
        }
    }

    static void promise8TheSeventhLosesTheOldestAlone() {
        Run six = ROW.then("needs", 3).then("wishes", 0, 1).then("ticks", 1).then("ticks", 2).then("needs", 4).then("wishes", 0, 0);
        Run seven = six.then("ticks", 3);
        Checks.due("undo()", seven.then("undo").answer(), 5);
        Run back = seven.often(6, "undo", 0);
        Checks.due("the sixth undo()", back.answer(), 0);
        ClockCrossings x = back.made();
        Checks.dueRow("counts", Checks.counts(x), 4, 0, 3, 0, 0, 0, 0, 0);
        Checks.dueRow("values", Checks.values(x), 0, 0, 0, 0);
        Checks.due("wish(0)", x.wish(0), 0);
    }

    static void promise8ARefusedCallIsNotUndone() {
        Run ahead = ROW.then("wishes", 0, 1).then("ticks", 3);
        Run refused = ahead.then("needs", 2).then("needs", 5).then("wishes", 0, 1).then("wishes", 1, 1).then("ticks", 0)
                .then("ticks", 100).then("back", 0).then("back", 2).then("keep", 2);
        Checks.due("undo()", refused.then("undo").answer(), 1);
        Checks.dueAlike("refused calls, undo()", refused.then("undo"), ahead.then("undo"));
        Run end = at(ROW, 999).then("ticks", 1);
        Checks.due("TIME", end.then("undo").then("count", 3).answer(), 990);
    }

    static void promise8OtherCallsAreNotUndone() {
        Run others = ROW.then("needs", 3).write("i0;z").then("tells").then("keep", 0).then("clear").write("ab");
        Checks.due("undo()", others.then("undo").answer(), 0);
        Checks.due("letters stay", others.then("undo").then("count", 6).answer(), 2);
        Checks.due("an image stays", others.then("undo").then("back", 0).then("count", 2).answer(), 3);
        Checks.dueUnchanged(others.then("undo"), "undo", Checks.STATE);
    }

    static void promise8WhatWasUndoneIsNotDoneAgain() {
        Run undone = ROW.then("needs", 3).then("ticks", 5).then("undo");
        Checks.due("undo() again", undone.then("undo").answer(), 0);
        Checks.due("NEED", undone.then("undo").then("count", 2).answer(), 2);
        Run other = undone.then("ticks", 7).then("undo");
        Checks.due("TIME", other.then("count", 3).answer(), 0);
        Checks.due("NEED", other.then("count", 2).answer(), 3);
    }

    static void promise8BehindUndoSixAreKnownAgain() {
        Run run = ROW.often(9, "ticks", 1).often(6, "undo", 0).often(7, "ticks", 10);
        Checks.due("count(7)", run.then("count", 7).answer(), 6);
        Checks.due("the sixth undo()", run.often(6, "undo", 0).answer(), 0);
        Checks.due("TIME", run.often(6, "undo", 0).then("count", 3).answer(), 13);
    }
}
