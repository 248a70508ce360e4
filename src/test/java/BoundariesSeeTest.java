/** Promises 9 to 17 at their boundaries: what there is, and calls that ask for what there is not. */
public final class BoundariesSeeTest {
    private static final int[] FAR = {Checks.LEAST, Checks.LEAST + 1, -1000, 1000, Checks.MOST - 1, Checks.MOST};
    private static final String SIXTEEN = "i0;".repeat(16);
    /** Register 1 has a row of 15 behind and with it. */
    private static final String LONG_ROW = longRow();
    /** Three inputs, nine registers of them in turn, all of which meet: three in 12, and two more in each of 13, 14, 15. */
    private static final String MANY_JOINS = manyJoins();
    /** Two inputs of clock 0, two registers of clock 1: 2 and 3 meet in 4. */
    private static final String JOINED = "i0;i0;r1 0;r1 1;x2 3;";
    /** Node 6 is HELD: chosen by 2, which is safe behind 1. */
    private static final String HELD = "i0;r1 0;r1 1;i1;i0;m2 3 4;r1 5;";

    private BoundariesSeeTest() {
    }

    public static void main(String[] args) throws ReflectiveOperationException {
        Checks.runAll(BoundariesSeeTest.class, 9, 17);
    }

    private static String longRow() {
        StringBuilder text = new StringBuilder("i0;");
        for (int n = 0; n < 15; n++) {
            text.append("r1 ").append(n).append(';');
        }
        return text.toString();
    }

    private static String manyJoins() {
        StringBuilder text = new StringBuilder("i0;i0;i0;");
        for (int n = 3; n < 12; n++) {
            text.append("r1 ").append(n % 3).append(';');
        }
        return text + "m3 4 5;m12 6 7;m13 8 9;m14 10 11;";
    }

    private static void dueKind(String text, int n, int kind) {
        Checks.due("KIND of " + n + " in " + text, Checks.told(text).register(n, 2), kind);
    }

    private static void dueJoins(String text, int many) {
        Checks.due("joins of " + text, Checks.told(text).join(-1, 0), many);
    }

    // ---- promise 9

    static void promise9NoNodeIsBad() {
        Run one = new Run().tell("i0;");
        for (int what = 0; what < 8; what++) {
            Checks.due("node(0, " + what + ") of none", new Run().then("node", 0, what).answer(), Checks.BAD);
            for (int n : new int[] {-1, 1, 2, 15, 16, 17, 32}) {
                Checks.dueUnchanged(one, "node", n, what, Checks.BAD);
            }
            for (int n : FAR) {
                Checks.dueUnchanged(one, "node", n, what, Checks.BAD);
            }
        }
    }

    static void promise9TheLastOf16Nodes() {
        ClockCrossings x = Checks.told(SIXTEEN);
        int[] want = {0, 0, Checks.NONE, Checks.NONE, Checks.NONE, 1, 1 << 15, 0};
        for (int what = 0; what < 8; what++) {
            Checks.due("node(15, " + what + ")", x.node(15, what), want[what]);
            Checks.due("node(16, " + what + ")", x.node(16, what), Checks.BAD);
            Checks.due("node(-1, " + what + ")", x.node(-1, what), Checks.BAD);
        }
    }

    static void promise9WhatIs0To7() {
        Run run = new Run().tell("i0;r1 0;m0 1 1;");
        for (int n = -1; n <= 3; n++) {
            for (int what : new int[] {-1, -2, 8, 9, Checks.LEAST, Checks.MOST}) {
                Checks.dueUnchanged(run, "node", n, what, Checks.BAD);
            }
        }
    }

    static void promise9WhatItIs() {
        ClockCrossings x = Checks.told("i0;r1 0;a0 1;o0 1;x0 1;m0 1 2;");
        for (int n = 0; n < 6; n++) {
            Checks.due("node(" + n + ", 0)", x.node(n, 0), n);
        }
    }

    static void promise9AGateHasNoClock() {
        ClockCrossings x = Checks.told("i2;r1 0;a0 1;o0 1;x0 1;m0 1 2;");
        Checks.due("node(0, 1)", x.node(0, 1), 2);
        Checks.due("node(1, 1)", x.node(1, 1), 1);
        for (int n = 2; n < 6; n++) {
            Checks.due("node(" + n + ", 1)", x.node(n, 1), Checks.NONE);
        }
    }

    static void promise9NotSoManyNodes() {
        ClockCrossings x = Checks.told("i0;r1 0;a1 0;o2 1;x3 3;m4 0 2;");
        int none = Checks.NONE;
        int[][] want = {{none, none, none}, {0, none, none}, {1, 0, none}, {2, 1, none}, {3, 3, none}, {4, 0, 2}};
        for (int n = 0; n < 6; n++) {
            Checks.dueRow("nodes of " + n, new int[] {x.node(n, 2), x.node(n, 3), x.node(n, 4)}, want[n]);
        }
    }

    static void promise9LeavesOfALeafAreItself() {
        ClockCrossings x = Checks.told(LONG_ROW);
        for (int n = 0; n < 16; n++) {
            Checks.due("node(" + n + ", 6)", x.node(n, 6), 1 << n);
            Checks.due("node(" + n + ", 5)", x.node(n, 5), n == 0 ? 1 : 2);
        }
    }

    static void promise9LeavesOfAGateAreOfAllItHas() {
        ClockCrossings x = Checks.told("i0;i1;i2;a0 0;a0 1;o4 2;m3 3 3;m3 4 2;m2 1 0;r0 8;x9 5;");
        int[] leaves = {1, 2, 4, 1, 3, 7, 1, 7, 7, 512, 519};
        int[] sources = {1, 2, 4, 1, 3, 7, 1, 7, 7, 1, 7};
        for (int n = 0; n < leaves.length; n++) {
            Checks.due("node(" + n + ", 6)", x.node(n, 6), leaves[n]);
            Checks.due("node(" + n + ", 5)", x.node(n, 5), sources[n]);
        }
    }

    static void promise9SourcesOfEverySetOfClocks() {
        ClockCrossings x = Checks.told("i0;i1;i2;a0 1;a0 2;a1 2;m0 1 2;x0 0;");
        int[] want = {1, 2, 4, 3, 5, 6, 7, 1};
        for (int n = 0; n < want.length; n++) {
            Checks.due("node(" + n + ", 5)", x.node(n, 5), want[n]);
        }
    }

    static void promise9ItsValueIs0To2() {
        Run run = new Run().tell("i0;r1 0;p0 1;p1 1;");
        Checks.dueRow("values", Checks.values(run.made()), 0, 0);
        Checks.dueRow("values", Checks.values(run.then("wishes", 0, 1).then("ticks", 1).made()), 1, 2);
    }

    // ---- promise 10

    static void promise10NoRegisterIsBad() {
        Run all = new Run().tell("i0;a0 0;o0 0;x0 0;m0 0 0;r1 0;");
        for (int what = 0; what < 3; what++) {
            for (int n : new int[] {-1, 0, 1, 2, 3, 4, 6, 15, 16}) {
                Checks.dueUnchanged(all, "register", n, what, Checks.BAD);
            }
            for (int n : FAR) {
                Checks.dueUnchanged(all, "register", n, what, Checks.BAD);
            }
            Checks.due("register(0, " + what + ") of none", new Run().then("register", 0, what).answer(), Checks.BAD);
            Checks.due("register(16, " + what + ") of 16", new Run().tell(LONG_ROW).then("register", 16, what).answer(), Checks.BAD);
        }
    }

    static void promise10WhatIs0To2() {
        Run run = new Run().tell("i0;r1 0;");
        for (int what : new int[] {-1, -2, 3, 4, 7, Checks.LEAST, Checks.MOST}) {
            Checks.dueUnchanged(run, "register", 1, what, Checks.BAD);
            Checks.dueUnchanged(run, "register", 0, what, Checks.BAD);
        }
    }

    static void promise10ForeignFromNoneToMany() {
        ClockCrossings x = Checks.told("i0;r0 0;r1 0;i1;i2;m0 3 4;r0 5;r1 5;r2 5;x3 3;r1 9;");
        int[] registers = {1, 2, 6, 7, 8, 10};
        int[] foreign = {0, 1, 8 + 16, 1 + 16, 1 + 8, 0};
        for (int i = 0; i < registers.length; i++) {
            Checks.due("register(" + registers[i] + ", 0)", x.register(registers[i], 0), foreign[i]);
        }
        ClockCrossings last = Checks.told("i0;".repeat(14) + "r0 13;r1 14;");
        Checks.due("the highest bit", last.register(15, 0), 1 << 14);
    }

    static void promise10NoCrossingHasNoKind() {
        dueKind("i0;r0 0;", 1, Checks.NONE);
        dueKind("i0;r0 0;r0 1;", 1, Checks.NONE);
        dueKind("i0;r0 0;a0 1;r0 2;", 3, Checks.NONE);
        dueKind("i0;r1 0;r1 1;", 2, Checks.NONE);
        dueKind("i1;r1 0;i1;m0 1 2;r1 3;", 4, Checks.NONE);
    }

    static void promise10DepthFrom1To15() {
        ClockCrossings x = Checks.told(LONG_ROW);
        for (int n = 1; n <= 15; n++) {
            Checks.due("register(" + n + ", 1)", x.register(n, 1), 16 - n);
        }
    }

    static void promise10DepthIfJustOneNodeHasItOnce() {
        Checks.due("none has it", Checks.told("i0;r1 0;").register(1, 1), 1);
        Checks.due("one register", Checks.told("i0;r1 0;r1 1;").register(1, 1), 2);
        Checks.due("two registers", Checks.told("i0;r1 0;r1 1;r1 1;").register(1, 1), 1);
        Checks.due("a register, a gate", Checks.told("i0;r1 0;r1 1;a0 1;").register(1, 1), 1);
        Checks.due("a register, a choice's third", Checks.told("i0;r1 0;r1 1;m0 0 1;").register(1, 1), 1);
        Checks.due("a register of its own, one of another clock", Checks.told("i0;r1 0;r1 1;r2 1;").register(1, 1), 1);
        Checks.due("one gate", Checks.told("i0;r1 0;a0 1;").register(1, 1), 1);
        Checks.due("one gate, twice", Checks.told("i0;r1 0;x1 1;").register(1, 1), 1);
        Checks.due("a mark is none that has it", Checks.told("i0;r1 0;r1 1;g0 1;e1 2;").register(1, 1), 2);
    }

    static void promise10DepthOfTheSameClock() {
        for (int clock = 0; clock < 3; clock++) {
            ClockCrossings x = Checks.told("i0;r1 0;r" + clock + " 1;");
            Checks.due("DEPTH, behind it clock " + clock, x.register(1, 1), clock == 1 ? 2 : 1);
        }
        ClockCrossings x = Checks.told("i0;r1 0;r1 1;r2 2;r2 3;r2 4;");
        int[] want = {2, 1, 3, 2, 1};
        for (int n = 1; n <= 5; n++) {
            Checks.due("register(" + n + ", 1)", x.register(n, 1), want[n - 1]);
        }
    }

    static void promise10DirectIfItsNodeItselfIsForeign() {
        dueKind("i0;r1 0;", 1, 1);
        dueKind("i0;r1 0;r1 1;", 1, 0);
        dueKind("i0;r0 0;r1 1;r1 2;", 2, 0);
        dueKind("i0;a0 0;r1 1;r1 2;", 2, 3);
        dueKind("i0;o0 0;r1 1;", 2, 3);
    }

    static void promise10HeldIfAllOfItIsSo() {
        dueKind(HELD, 6, 2);
        dueKind("i0;r1 0;r1 1;i1;i0;m2 4 3;r1 5;", 6, 2);
        dueKind("i0;r1 0;r1 1;i1;i0;m2 4 4;r1 5;", 6, 2);
        dueKind("i0;r1 0;r1 1;i1;i0;m2 4 0;r1 5;", 6, 2);
    }

    static void promise10HeldOnlyByAChoice() {
        for (String gate : new String[] {"a2 4", "o2 4", "x2 4"}) {
            dueKind("i0;r1 0;r1 1;i1;i0;" + gate + ";r1 5;", 6, 3);
        }
        dueKind("i0;r1 0;r1 1;i1;i0;m2 3 4;a5 5;r1 6;", 7, 3);
    }

    static void promise10HeldOnlyIfTheRegistersClockAloneChooses() {
        dueKind("i0;r1 0;r1 1;i1;i0;a2 4;m5 3 4;r1 6;", 7, 3);
        dueKind("i0;r1 0;r1 1;i1;i0;m4 3 2;r1 5;", 6, 3);
        dueKind("i0;r1 0;r1 1;i1;i0;i2;a2 5;m6 3 4;r1 7;", 8, 3);
        dueKind("i0;r1 0;r1 1;i1;i0;m2 3 4;r2 5;", 6, 3);
        dueKind("i0;r1 0;r1 1;i1;i0;a2 3;m5 3 4;r1 6;", 7, 2);
    }

    static void promise10HeldOnlyIfForeignAreOfOneClock() {
        dueKind("i0;r1 0;r1 1;i1;i0;i2;a4 5;m2 3 6;r1 7;", 8, 3);
        dueKind("i0;r1 0;r1 1;i2;i0;m2 3 4;r1 5;", 6, 3);
        dueKind("i0;r1 0;r1 1;i0;i0;m2 3 4;r1 5;", 6, 2);
    }

    static void promise10HeldOnlyByASafeOne() {
        dueKind("i0;r1 0;i1;i0;m1 2 3;r1 4;", 5, 3);
        dueKind("i0;r1 0;r1 1;i1;i0;a1 2;m5 3 4;r1 6;", 7, 3);
        dueKind("i1;r1 0;r1 1;i1;i0;m2 3 4;r1 5;", 6, 3);
        dueKind("i0;i1;i0;m1 1 2;r1 3;", 4, 3);
        dueKind("i0;a0 0;r1 1;r1 2;i1;i0;m3 4 5;r1 6;", 7, 3);
    }

    static void promise10HeldOnlyByOneOfThatOtherClock() {
        dueKind("i2;r1 0;r1 1;i1;i0;m2 3 4;r1 5;", 6, 3);
        dueKind("i2;r1 0;r1 1;i1;i2;m2 3 4;r1 5;", 6, 2);
        dueKind("i2;r1 0;r1 1;i0;r1 3;r1 4;a2 5;m6 5 3;r1 7;", 8, 2);
    }

    static void promise10HeldByNeed() {
        StringBuilder text = new StringBuilder("i0;i1;i0;r1 0;");
        for (int depth = 2; depth <= 5; depth++) {
            int last = depth + 1;
            text.append("r1 ").append(last).append(';');
            String held = text + "m" + (last + 1) + " 1 2;r1 " + (last + 2) + ";";
            for (int need = 2; need <= 4; need++) {
                ClockCrossings x = Checks.told(held);
                x.needs(need);
                Checks.due("KIND, a row of " + depth + ", NEED " + need, x.register(last + 3, 2), depth >= need ? 2 : 3);
            }
        }
    }

    static void promise10BackGoesThroughGatesAndOwnRegisters() {
        dueKind("i0;r1 0;r1 1;i1;i0;r1 2;a5 3;r1 6;x7 7;m8 3 4;r1 9;", 10, 2);
        dueKind("i0;r1 0;r1 1;i1;i0;m3 3 2;m5 3 4;r1 6;", 7, 2);
    }

    static void promise10BackGoesThroughNoOtherRegister() {
        dueKind("i0;r1 0;r1 1;i1;i0;r2 2;r1 5;m6 3 4;r1 7;", 8, 3);
        dueKind("i0;r1 0;r1 1;i1;i0;r0 2;r1 5;m6 3 4;r1 7;", 8, 3);
        dueKind("i0;r1 0;r1 1;i1;i0;r0 2;r1 5;r1 6;m7 3 4;r1 8;", 9, 2);
    }

    // ---- promise 11

    static void promise11KBelowMinus1IsBad() {
        Run run = new Run().tell("i0;r1 0;");
        for (int k : new int[] {-2, -3, Checks.NONE, -1000, Checks.LEAST + 1, Checks.LEAST}) {
            Checks.dueUnchanged(run, "crossing", k, Checks.BAD);
            Checks.dueUnchanged(new Run(), "crossing", k, Checks.BAD);
        }
    }

    static void promise11NotSoMany() {
        for (int many = 0; many <= 15; many++) {
            Run run = new Run().tell("i0;" + "r1 0;".repeat(many));
            Checks.due("how many", run.then("crossing", -1).answer(), many);
            for (int k = 0; k < many; k++) {
                Checks.due("crossing(" + k + ")", run.then("crossing", k).answer(), k + 1);
            }
            for (int k : new int[] {many, many + 1, 16, 1000, Checks.MOST}) {
                Checks.dueUnchanged(run, "crossing", k, Checks.NONE);
            }
        }
    }

    static void promise11NoneAtAll() {
        for (String text : new String[] {"", "i0;", "i0;r0 0;", SIXTEEN, "i0;i1;a0 1;", "p0 1;"}) {
            ClockCrossings x = Checks.told(text);
            Checks.due("how many", x.crossing(-1), 0);
            Checks.due("crossing(0)", x.crossing(0), Checks.NONE);
        }
    }

    static void promise11ByNumbersOfAllKinds() {
        ClockCrossings x = Checks.told(HELD + "r1 3;a0 3;r1 8;r2 3;");
        Checks.dueRow("crossings", new int[] {x.crossing(-1), x.crossing(0), x.crossing(1), x.crossing(2), x.crossing(3), x.crossing(4)},
                4, 1, 6, 9, 10, Checks.NONE);
    }

    // ---- promise 12

    static void promise12KindsAre0To3() {
        Run run = new Run().tell(HELD + "r1 3;a0 3;r1 8;r2 3;r0 3;");
        int[] want = {1, 2, 1, 1};
        for (int kind = 0; kind <= 3; kind++) {
            Checks.due("kinds(" + kind + ")", run.then("kinds", kind).answer(), want[kind]);
        }
        for (int kind : new int[] {-1, -2, Checks.NONE, 4, 5, Checks.LEAST, Checks.MOST}) {
            Checks.dueUnchanged(run, "kinds", kind, Checks.BAD);
            Checks.dueUnchanged(new Run(), "kinds", kind, Checks.BAD);
        }
    }

    static void promise12FromNoneToAll() {
        for (int kind = 0; kind <= 3; kind++) {
            Checks.due("of none", Checks.told("i0;r0 0;").kinds(kind), 0);
        }
        Checks.due("fifteen not safe", Checks.told("i0;" + "r1 0;".repeat(15)).kinds(1), 15);
        Checks.due("fourteen gated", Checks.told("i0;a0 0;" + "r1 1;".repeat(14)).kinds(3), 14);
        Checks.due("ten held", Checks.told("i0;r1 0;r1 1;i1;i0;m2 3 4;" + "r1 5;".repeat(10)).kinds(2), 10);
        Checks.due("seven safe", Checks.told("i0;r1 0;r1 1;r1 0;r1 3;r1 0;r1 5;r1 0;r1 7;r1 0;r1 9;r1 0;r1 11;r1 0;r1 13;").kinds(0), 7);
    }

    static void promise12AllKindsAreAllCrossings() {
        for (int need = 2; need <= 4; need++) {
            ClockCrossings x = Checks.told(HELD + "r1 3;a0 3;r1 8;r2 3;r0 3;");
            x.needs(need);
            Checks.due("all kinds", x.kinds(0) + x.kinds(1) + x.kinds(2) + x.kinds(3), x.crossing(-1));
        }
    }

    // ---- promise 13

    static void promise13KBelowMinus1IsBad() {
        Run run = new Run().tell(JOINED);
        for (int k : new int[] {-2, -3, Checks.NONE, Checks.LEAST + 1, Checks.LEAST}) {
            for (int what = 0; what <= 2; what++) {
                Checks.dueUnchanged(run, "join", k, what, Checks.BAD);
            }
        }
    }

    static void promise13HowManyIsWhat0Alone() {
        Run run = new Run().tell(JOINED);
        Checks.due("join(-1, 0)", run.then("join", -1, 0).answer(), 1);
        for (int what : new int[] {-1, 1, 2, 3, Checks.LEAST, Checks.MOST}) {
            Checks.dueUnchanged(run, "join", -1, what, Checks.BAD);
        }
    }

    static void promise13WhatIs0To2() {
        Run run = new Run().tell(JOINED);
        Checks.dueRow("join", new int[] {run.then("join", 0, 0).answer(), run.then("join", 0, 1).answer(), run.then("join", 0, 2).answer()}, 2, 3, 4);
        for (int k : new int[] {0, 1, 99, Checks.MOST}) {
            for (int what : new int[] {-1, -2, 3, 4, Checks.LEAST, Checks.MOST}) {
                Checks.dueUnchanged(run, "join", k, what, Checks.BAD);
                Checks.dueUnchanged(new Run(), "join", k, what, Checks.BAD);
            }
        }
    }

    static void promise13NotSoMany() {
        Run run = new Run().tell(JOINED);
        for (int k : new int[] {1, 2, 16, 120, 1000, Checks.MOST - 1, Checks.MOST}) {
            for (int what = 0; what <= 2; what++) {
                Checks.dueUnchanged(run, "join", k, what, Checks.NONE);
                Checks.due("join of none", new Run().then("join", 0, what).answer(), Checks.NONE);
            }
        }
    }

    static void promise13TwentySevenByRThenQ() {
        ClockCrossings x = Checks.told(MANY_JOINS);
        int k = 0;
        for (int r = 3; r < 12; r++) {
            for (int q = r + 1; q < 12; q++) {
                if (r % 3 != q % 3) {
                    int where = q <= 5 ? 12 : q <= 7 ? 13 : q <= 9 ? 14 : 15;
                    Checks.dueRow("join(" + k + ")", new int[] {x.join(k, 0), x.join(k, 1), x.join(k, 2)}, r, q, where);
                    k++;
                }
            }
        }
        Checks.due("how many", x.join(-1, 0), k);
        Checks.due("how many", k, 27);
        for (int what = 0; what <= 2; what++) {
            Checks.due("join(27, " + what + ")", x.join(27, what), Checks.NONE);
        }
    }

    static void promise13OfDirectCrossingsAlone() {
        dueJoins(JOINED, 1);
        dueJoins("i0;i0;a0 0;a1 1;r1 2;r1 3;x4 5;", 0);
        dueJoins("i0;i0;a1 1;r1 0;r1 2;x3 4;", 0);
        dueJoins("i1;i1;r1 0;r1 1;x2 3;", 0);
    }

    static void promise13SafeOrNot() {
        dueJoins("i0;i0;r1 0;r1 1;r1 2;r1 3;x4 5;", 1);
        dueJoins("i0;i0;r1 0;r1 1;r1 2;x4 3;", 1);
    }

    static void promise13OfTheSameClock() {
        dueJoins("i0;i0;r1 0;r2 1;x2 3;", 0);
        dueJoins("i0;i0;r2 0;r2 1;x2 3;", 1);
    }

    static void promise13OfUnlikeNodesOfOneClock() {
        dueJoins("i0;r1 0;r1 0;x1 2;", 0);
        dueJoins("i0;i2;r1 0;r1 1;x2 3;", 0);
        dueJoins("i2;i2;r1 0;r1 1;x2 3;", 1);
        dueJoins("i0;r0 0;r1 0;r1 1;x2 3;", 1);
    }

    static void promise13TheseNoMarkOfEachOther() {
        dueJoins(JOINED + "g0 1;", 0);
        dueJoins(JOINED + "g1 0;", 0);
        dueJoins(JOINED + "e0 1;", 0);
        dueJoins(JOINED + "e1 0;", 0);
        dueJoins(JOINED + "g0 1;e0 1;", 0);
        dueJoins(JOINED + "g0 2;e1 3;g0 3;e1 2;", 1);
        dueJoins("i0;i0;i0;r1 0;r1 1;r1 2;m3 4 5;", 3);
        dueJoins("i0;i0;i0;r1 0;r1 1;r1 2;m3 4 5;g0 1;", 2);
        dueJoins("i0;i0;i0;r1 0;r1 1;r1 2;m3 4 5;g0 1;e1 2;", 1);
        dueJoins("i0;i0;i0;r1 0;r1 1;r1 2;m3 4 5;g0 1;e1 2;e2 0;", 0);
    }

    /** "These" are the NODES of R and Q: a mark of R and Q themselves leaves the join. */
    static void promise13AMarkOfTheRegistersThemselvesIsNone() {
        dueJoins(JOINED + "g2 3;", 1);
        dueJoins(JOINED + "g3 2;", 1);
        dueJoins(JOINED + "e2 3;", 1);
        dueJoins(JOINED + "e3 2;e2 3;g2 3;g3 2;", 1);
        dueJoins(JOINED + "e3 2;g1 0;", 0);
        String registers = "i0;r0 0;r0 1;r1 1;r1 2;x3 4;";
        dueJoins(registers, 1);
        dueJoins(registers + "g3 4;e3 4;g0 1;e0 2;", 1);
        dueJoins(registers + "g2 1;", 0);
    }

    static void promise13TheLastOfSixMarksCounts() {
        dueJoins("i0;i0;r1 0;r1 1;x2 3;i2;g5 0;g5 1;e5 0;e5 1;g5 0;", 1);
        dueJoins("i0;i0;r1 0;r1 1;x2 3;i2;g5 0;g5 1;e5 0;e5 1;g5 0;e1 0;", 0);
    }

    static void promise13ReachedByGatesAndOwnRegisters() {
        dueJoins("i0;i0;r1 0;r1 1;", 0);
        dueJoins("i0;i0;r1 0;r1 1;r1 2;r1 3;", 0);
        dueJoins("i0;i0;r1 0;r1 1;r2 2;x3 4;", 0);
        dueJoins("i0;i0;r1 0;r1 1;r0 2;r2 3;x4 5;", 0);
        Checks.due("R of other registers", Checks.told("i0;i0;r1 0;r1 1;r0 2;r0 3;x4 5;").join(0, 0), 4);
        dueJoins("i0;i0;r1 0;r1 1;r1 2;a3 3;m0 4 5;", 1);
        dueJoins("i0;i0;r1 0;r1 1;a2 2;r2 4;a5 3;", 0);
    }

    static void promise13WhereIsTheLowest() {
        Checks.due("WHERE", Checks.told("i0;i0;r1 0;r1 1;x2 3;a2 3;r1 4;").join(0, 2), 4);
        Checks.due("WHERE", Checks.told("i0;i0;r1 0;r1 1;a2 2;r1 4;o3 5;x2 3;").join(0, 2), 6);
        Checks.due("WHERE", Checks.told("i0;".repeat(11) + "r1 0;r1 10;i1;i1;a11 12;").join(0, 2), 15);
    }

    // ---- promise 14

    static void promise14NoCrossingsNoRisk() {
        for (String text : new String[] {"", "i0;", "i0;r0 0;r0 1;", SIXTEEN, "p0 1;"}) {
            Checks.due("risk() of " + text, Checks.told(text).risk(), 0);
        }
    }

    static void promise14OneOfEachKind() {
        String held = "i0;r1 0;r1 1;i1;i0;m2 3 4;";
        for (int period = 1; period <= 9; period++) {
            String by = "p1 " + period + ";";
            Checks.due("KIND 1", Checks.told("i0;r1 0;" + by).risk(), (int) (10000f * (0.75f / (float) period)));
            Checks.due("KIND 3", Checks.told("i0;a0 0;r1 1;" + by).risk(), (int) (10000f * (1.5f / (float) period)));
            Checks.due("KIND 0", Checks.told("i0;r1 0;r1 1;" + by).risk(), (int) (10000f * (0.25f / (float) period)));
            Checks.due("KIND 0, 2", Checks.told(held + "r1 5;" + by).risk(),
                    (int) (10000f * (0.25f / (float) period + 0.125f / (float) period)));
        }
        Checks.due("KIND 1 by 1", Checks.told("i0;r1 0;p1 1;").risk(), 7500);
        Checks.due("KIND 1 by 9", Checks.told("i0;r1 0;p1 9;").risk(), 833);
        Checks.due("KIND 3 by 1", Checks.told("i0;a0 0;r1 1;p1 1;").risk(), 15000);
        Checks.due("KIND 3 by 9", Checks.told("i0;a0 0;r1 1;p1 9;").risk(), 1666);
        Checks.due("KIND 0, 2 by 1", Checks.told(held + "r1 5;p1 1;").risk(), 3750);
    }

    static void promise14HalvedAsOftenAsItsDepth() {
        StringBuilder row = new StringBuilder("p1 1;i0;r1 0;");
        int[] want = {7500, 2500, 1250, 625, 312, 156, 78, 39, 19, 9, 4, 2, 1, 0, 0};
        for (int depth = 1; depth <= 15; depth++) {
            Checks.due("risk() of DEPTH " + depth, Checks.told(row.toString()).risk(), want[depth - 1]);
            row.append("r1 ").append(depth).append(';');
        }
    }

    static void promise14ByItsOwnClocksPeriod() {
        Checks.due("of clock 0", Checks.told("i1;r0 0;p0 5;p1 1;p2 1;").risk(), 1500);
        Checks.due("of clock 1", Checks.told("i0;r1 0;p0 1;p1 5;p2 1;").risk(), 1500);
        Checks.due("of clock 2", Checks.told("i1;r2 0;p0 1;p1 1;p2 5;").risk(), 1500);
        Checks.due("as at first", Checks.told("i1;i0;r0 0;r1 1;r2 0;").risk(), 7750);
    }

    static void promise14InFloatsByNumbers() {
        Checks.due("in floats", Checks.told("i0;i1;i2;a0 1;a1 2;a2 0;r1 2;r1 2;r2 3;r1 3;r2 3;p0 2;p1 4;p2 5;").risk(), 13499);
        Checks.due("the other way round", Checks.told("i0;i1;i2;a0 1;a1 2;a2 0;r2 3;r1 3;r2 3;r1 2;r1 2;p0 2;p1 4;p2 5;").risk(), 13500);
        Checks.due("times in floats", Checks.told("i0;i1;i2;a0 1;a1 2;a2 0;r1 3;r1 3;r0 1;p0 5;p1 2;p2 5;").risk(), 16500);
        Checks.due("above what doubles give", Checks.told("i0;i1;i2;a0 1;r1 2;r1 2;r1 2;r2 3;r0 1;r0 3;r1 2;p0 9;p1 5;p2 8;").risk(), 10375);
    }

    static void promise14IsDividedByThePeriod() {
        Checks.due("not times a part", Checks.told("i0;i1;a0 0;a1 1;r0 3;r0 1;r0 3;r2 2;r0 3;p0 7;p1 1;p2 1;").risk(), 22499);
        Checks.due("not times a part", Checks.told("i0;i1;a0 0;a1 1;r1 0;r1 2;r1 0;r1 2;r2 2;r1 0;p0 6;p1 7;p2 3;").risk(), 12499);
    }

    static void promise14TheMostRisk() {
        Checks.due("fourteen gated by 1", Checks.told("i0;a0 0;" + "r1 1;".repeat(14) + "p1 1;").risk(), 210000);
    }

    static void promise14ByNeed() {
        ClockCrossings x = Checks.told(HELD + "p1 1;");
        Checks.due("NEED 2", x.risk(), 3750);
        x.needs(3);
        Checks.due("NEED 3", x.risk(), 22500);
        x.undo();
        Checks.due("undone", x.risk(), 3750);
    }

    // ---- promise 15

    static void promise15ClocksAre0To2() {
        Run run = new Run().tell("p0 1;p1 9;p2 8;");
        Checks.dueRow("periods", Checks.periods(run.made()), 1, 9, 8);
        for (int clock : new int[] {-1, -2, 3, 4, Checks.LEAST, Checks.MOST}) {
            Checks.dueUnchanged(run, "period", clock, Checks.BAD);
            Checks.dueUnchanged(new Run(), "period", clock, Checks.BAD);
        }
    }

    static void promise15IsNeitherUndoneNorKept() {
        Run run = new Run().then("keep", 0).tell("p0 9;").then("ticks", 1).then("keep", 1).then("ticks", 1);
        Checks.due("behind undo()", run.then("undo").then("period", 0).answer(), 9);
        Checks.due("behind back(1)", run.then("back", 1).then("period", 0).answer(), 9);
    }

    // ---- promise 16

    static void promise16NoInputIsBad() {
        Run all = new Run().tell("i0;r1 0;a0 1;o0 1;x0 1;m0 1 0;");
        Checks.due("wish(0)", all.then("wish", 0).answer(), 0);
        for (int n : new int[] {-1, 1, 2, 3, 4, 5, 6, 15, 16}) {
            Checks.dueUnchanged(all, "wish", n, Checks.BAD);
        }
        for (int n : FAR) {
            Checks.dueUnchanged(all, "wish", n, Checks.BAD);
        }
        Checks.dueUnchanged(new Run(), "wish", 0, Checks.BAD);
    }

    static void promise16TheLastOf16Inputs() {
        Run run = new Run().tell(SIXTEEN);
        Checks.due("wish(15)", run.then("wish", 15).answer(), 0);
        Checks.due("wish(15)", run.then("wishes", 15, 1).then("wish", 15).answer(), 1);
        Checks.due("wish(16)", run.then("wish", 16).answer(), Checks.BAD);
    }

    static void promise16IsTheWishNotTheValue() {
        Run run = new Run().tell("i0;p0 9;").then("wishes", 0, 1);
        Checks.due("wish(0)", run.then("wish", 0).answer(), 1);
        Checks.due("wish(0)", run.then("ticks", 9).then("wishes", 0, 0).then("wish", 0).answer(), 0);
    }

    // ---- promise 17

    static void promise17NoNodeIsBad() {
        Run run = new Run().tell("i0;r1 0;");
        for (int v = 0; v <= 2; v++) {
            for (int n : new int[] {-1, 2, 15, 16, Checks.LEAST, Checks.MOST}) {
                Checks.dueUnchanged(run, "when", n, v, Checks.BAD);
            }
            Checks.dueUnchanged(new Run(), "when", 0, v, Checks.BAD);
            Checks.due("the last of 16", new Run().tell(SIXTEEN).then("when", 15, v).answer(), v == 0 ? 0 : Checks.NONE);
            Checks.due("behind the last", new Run().tell(SIXTEEN).then("when", 16, v).answer(), Checks.BAD);
        }
    }

    static void promise17ValuesAre0To2() {
        Run run = new Run().tell("i0;r1 0;p0 1;p1 1;").then("wishes", 0, 1);
        Checks.dueRow("when", new int[] {run.then("when", 1, 0).answer(), run.then("when", 1, 1).answer(), run.then("when", 1, 2).answer()}, 0, 2, 1);
        for (int v : new int[] {-1, -2, 3, 4, Checks.LEAST, Checks.MOST}) {
            Checks.dueUnchanged(run, "when", 0, v, Checks.BAD);
            Checks.dueUnchanged(run, "when", 1, v, Checks.BAD);
        }
    }

    static void promise17ZeroIfItIsThatNow() {
        Run run = new Run().tell("i0;r1 0;a0 1;p0 1;p1 1;").then("wishes", 0, 1).then("ticks", 1);
        Checks.due("when(0, 1)", run.then("when", 0, 1).answer(), 0);
        Checks.due("when(1, 2)", run.then("when", 1, 2).answer(), 0);
        Checks.due("when(2, 2)", run.then("when", 2, 2).answer(), 0);
        Checks.due("when(2, 1)", run.then("when", 2, 1).answer(), 1);
        Checks.due("when(2, 0)", run.then("when", 2, 0).answer(), Checks.NONE);
    }

    /** Node n of the row is 1 at 9 + 9 n: the last that can be seen from 0 is node 10, at 99, from 9 node 11, at 108. */
    static void promise17From0To99TicksNot100() {
        StringBuilder text = new StringBuilder("p2 9;i2;");
        for (int n = 0; n < 12; n++) {
            text.append("r2 ").append(n).append(';');
        }
        Run run = new Run().tell(text.toString()).then("wishes", 0, 1);
        for (int time = 0; time <= 9; time++) {
            Run there = time == 0 ? run : run.then("ticks", time);
            for (int n = 0; n <= 12; n++) {
                int ticks = 9 + 9 * n - time;
                Checks.due("when(" + n + ", 1) from " + time, there.then("when", n, 1).answer(), ticks <= 99 ? ticks : Checks.NONE);
            }
        }
    }

    static void promise17NeverIsNone() {
        Run run = new Run().tell("i0;r0 0;a0 1;");
        Checks.due("an input is never unknown", run.then("when", 0, 2).answer(), Checks.NONE);
        Checks.due("its wish is 0", run.then("when", 0, 1).answer(), Checks.NONE);
        Checks.due("nor a register of its own clock", run.then("wishes", 0, 1).then("when", 1, 2).answer(), Checks.NONE);
    }

    static void promise17BeyondTime999() {
        Run end = new Run().tell("i0;r0 0;p0 9;").often(10, "ticks", 99).then("ticks", 9).then("wishes", 0, 1);
        Checks.due("TIME", end.then("count", 3).answer(), 999);
        Checks.due("at 1008", end.then("when", 0, 1).answer(), 9);
        Checks.due("at 1017", end.then("when", 1, 1).answer(), 18);
        Checks.dueUnchanged(end, "when", 1, 1, 18);
    }

    static void promise17NothingIsChanged() {
        Run run = new Run().tell("i0;i1;a0 1;r1 2;r1 0;r1 4;p0 1;p1 1;").then("wishes", 0, 1).then("ticks", 1).then("wishes", 1, 1)
                .then("keep", 0).write("i0");
        int[][] want = {{Checks.NONE, 0, Checks.NONE}, {0, 1, Checks.NONE}, {0, 1, Checks.NONE}, {1, 2, 0}, {Checks.NONE, 1, 0}, {0, 1, Checks.NONE}};
        for (int n = 0; n < want.length; n++) {
            for (int v = 0; v <= 2; v++) {
                Checks.dueUnchanged(run, "when", n, v, want[n][v]);
            }
        }
    }

    static void promise17WishesAsTheyAre() {
        Run run = new Run().tell("i0;p0 9;").then("wishes", 0, 1);
        Checks.due("wish 1", run.then("when", 0, 1).answer(), 9);
        Checks.due("wish 0", run.then("wishes", 0, 0).then("when", 0, 1).answer(), Checks.NONE);
    }

    static void promise17TheFewest() {
        Run run = new Run().tell("i0;r1 0;p0 3;p1 2;").then("wishes", 0, 1);
        Checks.due("input at 3", run.then("when", 0, 1).answer(), 3);
        Checks.due("register at 4, not struck", run.then("when", 1, 1).answer(), 4);
        Checks.due("never unknown", run.then("when", 1, 2).answer(), Checks.NONE);
        Run both = run.then("ticks", 5).then("wishes", 0, 0);
        Checks.due("struck at 6", both.then("when", 1, 2).answer(), 1);
        Checks.due("0 at 8", both.then("when", 1, 0).answer(), 3);
    }
}
