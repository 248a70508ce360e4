/** Each promise of the document by hand: ordinary calls, edges, and what is refused. */
public final class PromisesTest {
    private static final int BAD = -1, STATE = -2, FULL = -3, NONE = -9;

    /** Two bits of clock 0 go to clock 1, each by two registers, and meet in 8; 9 takes that. */
    private static final String MEETING =
            "i0; r0 0; i0; r0 2; r1 1; r1 4; r1 3; r1 6; a5 7; r1 8;";

    private static int wrong = 0;
    private static int calls = 0;

    public static void main(String[] args) {
        promise1();
        promise2();
        promise3();
        promise4Tokens();
        promise4Faults();
        promise4Limits();
        promise4Anew();
        promise5();
        promise6();
        promise7();
        promise7Registers();
        promise7Gates();
        promise8();
        promise9();
        promise10();
        promise10Held();
        promise11();
        promise12();
        promise13();
        promise13NoJoins();
        promise14();
        promise15();
        promise16();
        promise17();
        promise18And19();
        promise20();
        System.out.println(calls + " calls of the promises, " + wrong + " wrong");
        if (wrong != 0) {
            System.exit(1);
        }
    }

    private static void due(String call, int got, int want) {
        calls++;
        if (got != want) {
            wrong++;
            System.out.println(call + " answered " + got + ", due is " + want);
        }
    }

    private static void dueAll(String what, int[] got, int... want) {
        for (int i = 0; i < want.length; i++) {
            due(what + " [" + i + "]", got[i], want[i]);
        }
    }

    private static void write(ClockCrossings x, String text) {
        for (int i = 0; i < text.length(); i++) {
            x.type(text.charAt(i));
        }
    }

    private static int tell(ClockCrossings x, String text) {
        x.clear();
        write(x, text);
        return x.tells();
    }

    private static ClockCrossings told(String text) {
        ClockCrossings x = new ClockCrossings();
        if (tell(x, text) < 0) {
            due("told " + text, -1, 0);
        }
        return x;
    }

    private static void dueFault(String text, int place) {
        ClockCrossings x = new ClockCrossings();
        due("tells " + text, tell(x, text), -10 - place);
    }

    private static int[] counts(ClockCrossings x) {
        int[] all = new int[8];
        for (int what = 0; what < 8; what++) {
            all[what] = x.count(what);
        }
        return all;
    }

    private static void promise1() {
        ClockCrossings x = new ClockCrossings();
        dueAll("new, count", counts(x), 0, 0, 2, 0, 0, 0, 0, 0);
        dueAll("new, period", new int[] {x.period(0), x.period(1), x.period(2)}, 2, 3, 5);
        due("new, undo", x.undo(), STATE);
        due("new, back", x.back(0), STATE);
        due("new, node", x.node(0, 0), BAD);
        due("new, register", x.register(0, 0), BAD);
        due("new, wish", x.wish(0), BAD);
        due("new, crossing", x.crossing(0), NONE);
        due("new, join", x.join(0, 0), NONE);
        due("new, risk", x.risk(), 0);
        due("new, ticks", x.ticks(99), 0);
        due("new, time", x.count(3), 99);
    }

    private static void promise2() {
        ClockCrossings x = new ClockCrossings();
        due("type", x.type(0), 1);
        due("type", x.type(255), 2);
        due("type below", x.type(-1), BAD);
        due("type above", x.type(256), BAD);
        due("type far below", x.type(Integer.MIN_VALUE), BAD);
        due("letters", x.count(6), 2);
        for (int i = 3; i <= 160; i++) {
            due("type " + i, x.type(' '), i);
        }
        due("type 161", x.type(' '), FULL);
        due("type bad ahead of full", x.type(256), BAD);
        due("letters of a full text", x.count(6), 160);
    }

    private static void promise3() {
        ClockCrossings x = told("i0;");
        due("clear of nothing", x.clear(), 0);
        write(x, "i 1;");
        due("clear", x.clear(), 4);
        due("letters", x.count(6), 0);
        due("clear leaves nodes", x.count(0), 1);
        due("type behind clear", x.type('i'), 1);
        x.clear();
        for (int i = 0; i < 160; i++) {
            x.type(' ');
        }
        due("clear of a full text", x.clear(), 160);
        due("type behind that", x.type(';'), 1);
    }

    private static void promise4Tokens() {
        ClockCrossings x = new ClockCrossings();
        due("no text", x.tells(), 0);
        due("blanks", tell(x, "   "), 0);
        due("tight", tell(x, "i0;i1;r2 1;a0 1;o0 1;x0 1;m0 1 2;p0 9;g0 1;e2 0;"), 10);
        due("nodes", x.count(0), 7);
        due("marks", x.count(1), 2);
        due("letters are gone", x.count(6), 0);
        due("wide", tell(x, "  i  0  ;  r  1   0 ; "), 2);
        due("nodes", x.count(0), 2);
        due("told again", tell(x, "p0 3;p0 4;"), 2);
        due("the later", x.period(0), 4);
        due("no nodes", x.count(0), 0);
        due("gate of one node twice", tell(x, "i0;a0 0;m0 0 0;"), 3);
        due("two figures", tell(x, "i0;i0;i0;i0;i0;i0;i0;i0;i0;i0;i0;r1 10;"), 12);
        due("its node", x.node(11, 2), 10);
    }

    private static void promise4Faults() {
        dueFault("i", 1);
        dueFault("i 0", 3);
        dueFault("i 0  ", 5);
        dueFault("i 0; r", 6);
        dueFault("m", 1);
        dueFault(";", 0);
        dueFault(" ;", 1);
        dueFault("i0;;", 3);
        dueFault("7", 0);
        dueFault("i;", 1);
        dueFault("i i", 2);
        dueFault("i0 0;", 3);
        dueFault("i0i0;", 2);
        dueFault("I0;", 0);
        dueFault("i\t0;", 1);
        dueFault("i0" + (char) 0, 2);
        dueFault("i" + (char) 255, 1);
        dueFault("i-1;", 1);
        dueFault("i 3;", 2);
        dueFault("i 3 z", 2);
        dueFault("i 00;", 2);
        dueFault("i 01;", 2);
        dueFault("i0;r00;", 4);
        dueFault("i 100;", 2);
        dueFault("i 4294967296;", 2);
        dueFault("i 99999999999999999999999999", 2);
        dueFault("100", 0);
        dueFault("r 3 0;", 2);
        dueFault("r 0 0;", 4);
        dueFault("i0;r 0 1;", 7);
        dueFault("i0;a 0 1;", 7);
        dueFault("i0;a 1 0;", 5);
        dueFault("i0;o 0 99;", 7);
        dueFault("i0;x 0;", 6);
        dueFault("i0;m 0 0;", 8);
        dueFault("i0;m 0 0 1;", 9);
        dueFault("i0;m 0 0 0 0;", 11);
        dueFault("p 3 1;", 2);
        dueFault("p 0 0;", 4);
        dueFault("p 0 10;", 4);
        dueFault("p 0;", 3);
        dueFault("i0;g 0 0;", 7);
        dueFault("i0;e 0 0;", 7);
        dueFault("i0;g 0 1;", 7);
        dueFault("i0;i0;a0 1;g 2 0;", 13);
        dueFault("i0;i0;a0 1;e 0 2;", 15);
        dueFault("i0;i0;g 0 1 ", 12);
    }

    private static void promise4Limits() {
        ClockCrossings x = new ClockCrossings();
        String sixteen = "i0;i0;i0;i0;i0;i0;i0;i0;i0;i0;i0;i0;i0;i0;i0;i0;";
        due("16 nodes", tell(x, sixteen), 16);
        due("17 nodes", tell(x, sixteen + " i0;"), -10 - 49);
        due("17th is a gate", tell(x, sixteen + "a0 0;"), -10 - 48);
        due("17th, its letter first", tell(x, sixteen + "m z"), -10 - 48);
        due("16 nodes, marks, a period", tell(x, sixteen + "g0 15;p2 1;e15 14;"), 19);
        String six = "i0;i0;g0 1;g1 0;e0 1;e0 1;g0 1;e1 0;";
        due("six marks", tell(x, six), 8);
        due("six marks, counted", x.count(1), 6);
        due("a seventh mark", tell(x, six + "e0 1;"), -10 - 36);
        due("six marks, a node", tell(x, six + "i0;"), 9);
    }

    private static void promise4Anew() {
        ClockCrossings x = told("i0;p0 7;");
        x.needs(3);
        x.wishes(0, 1);
        x.ticks(7);
        x.keep(0);
        x.keep(1);
        due("a fault", tell(x, "p1 9;i0;z"), -10 - 8);
        dueAll("a fault changes nothing", counts(x), 1, 0, 3, 7, 0, 0, 9, 3);
        due("its period", x.period(1), 3);
        due("its value", x.node(0, 7), 1);
        due("its image", x.back(1), 7);
        due("the text stays", x.clear(), 9);
        x.ticks(1);
        due("anew", tell(x, "i1;"), 1);
        dueAll("all anew", counts(x), 1, 0, 2, 0, 0, 0, 0, 0);
        due("its clock", x.node(0, 1), 1);
        due("its value", x.node(0, 7), 0);
        due("its wish", x.wish(0), 0);
        due("period as at first", x.period(0), 2);
        due("no image", x.back(0), STATE);
        due("no image", x.back(1), STATE);
        due("nothing undone", x.undo(), STATE);
    }

    private static void promise5() {
        ClockCrossings x = told("i0;r1 0;r1 1;r1 2;");
        due("needs", x.needs(1), BAD);
        due("needs", x.needs(5), BAD);
        due("needs", x.needs(2), STATE);
        due("refused, nothing undone", x.count(7), 0);
        due("kind", x.register(1, 2), 0);
        due("needs", x.needs(4), 2);
        due("kind", x.register(1, 2), 1);
        due("needs", x.needs(4), STATE);
        due("needs", x.needs(3), 4);
        due("kind", x.register(1, 2), 0);
        due("need", x.count(2), 3);
        due("undoable", x.count(7), 2);
    }

    private static void promise6() {
        ClockCrossings x = told("i0;r1 0;a0 1;");
        due("wishes", x.wishes(0, 0), STATE);
        due("wishes", x.wishes(0, 1), 0);
        due("wishes", x.wishes(0, 1), STATE);
        due("no value yet", x.node(0, 7), 0);
        due("wishes of a register", x.wishes(1, 1), BAD);
        due("wishes of a gate", x.wishes(2, 1), BAD);
        due("wishes of none", x.wishes(3, 1), BAD);
        due("wishes of none", x.wishes(-1, 1), BAD);
        due("wishes 2", x.wishes(0, 2), BAD);
        due("wishes -1", x.wishes(0, -1), BAD);
        due("refused, not undone", x.count(7), 1);
        due("ticks", x.ticks(1), 0);
        due("no edge yet", x.node(0, 7), 0);
        due("ticks", x.ticks(1), 0);
        due("its value", x.node(0, 7), 1);
        due("wishes", x.wishes(0, 0), 1);
    }

    private static void promise7() {
        ClockCrossings x = told("i0;");
        due("ticks 0", x.ticks(0), BAD);
        due("ticks 100", x.ticks(100), BAD);
        due("ticks -1", x.ticks(-1), BAD);
        due("time", x.count(3), 0);
        for (int i = 0; i < 10; i++) {
            due("ticks 99", x.ticks(99), 0);
        }
        due("time", x.count(3), 990);
        due("ticks beyond", x.ticks(10), STATE);
        due("bad ahead of state", x.ticks(100), BAD);
        due("time", x.count(3), 990);
        due("ticks to the end", x.ticks(9), 0);
        due("time", x.count(3), 999);
        due("ticks behind the end", x.ticks(1), STATE);
    }

    private static void promise7Registers() {
        ClockCrossings own = told("i0;r0 0;r0 1;");
        own.wishes(0, 1);
        due("own clock, not struck", own.ticks(2), 0);
        dueAll("at once", values(own), 1, 0, 0);
        own.ticks(2);
        dueAll("one by one", values(own), 1, 1, 0);

        ClockCrossings x = told("i0;r1 0;r1 1;r1 2;p1 2;");
        x.wishes(0, 1);
        due("struck", x.ticks(2), 1);
        dueAll("struck", values(x), 1, 2, 0, 0);
        due("settles", x.ticks(2), 0);
        dueAll("settles", values(x), 1, 1, 1, 0);
        due("no leak", x.count(5), 0);
        x.wishes(0, 0);
        due("struck", x.ticks(2), 1);
        dueAll("struck again", values(x), 0, 2, 1, 1);
        x.wishes(0, 1);
        due("struck while unknown", x.ticks(2), 1);
        dueAll("settles by what was", values(x), 1, 2, 0, 1);
        due("struck", x.count(4), 3);

        ClockCrossings deep = told("i0;r1 0;r2 1;r2 2;p0 1;p1 1;p2 1;");
        deep.wishes(0, 1);
        due("struck in a row", deep.ticks(1), 2);
        dueAll("struck in a row", values(deep), 1, 2, 2, 0);
        due("struck by what settles", deep.ticks(1), 1);
        dueAll("0, where that was unknown too", values(deep), 1, 1, 2, 0);
        due("no leak", deep.count(5), 0);
        deep.ticks(1);
        dueAll("settled", values(deep), 1, 1, 1, 1);

        ClockCrossings leak = told("i0;i1;a0 1;r1 2;r1 3;p0 1;p1 1;");
        leak.wishes(0, 1);
        due("struck by a gate's leaf", leak.ticks(1), 1);
        dueAll("gate still 0", values(leak), 1, 0, 0, 2, 0);
        leak.ticks(1);
        dueAll("leaks: no direct crossing", values(leak), 1, 0, 0, 0, 2);
        due("leaked", leak.count(5), 1);
        leak.keep(0);
        leak.undo();
        due("leaked, undone", leak.count(5), 0);
        leak.back(0);
        due("leaked, as kept", leak.count(5), 1);
        tell(leak, "i0;i0;g0 1;r1 0;r1 1;a2 3;");
        due("marked", leak.join(-1, 0), 0);
        dueAll("all anew", counts(leak), 5, 1, 2, 0, 0, 0, 0, 0);
        tell(leak, "i0;i0;r1 0;r1 1;r1 2;r1 3;");
        due("no gate any more", leak.join(-1, 0), 0);
        tell(leak, "i0;i0;r1 0;r1 1;a2 3;");
        due("no marks any more", leak.join(-1, 0), 1);
        due("nothing told", tell(leak, ""), 0);
        dueAll("nothing told", counts(leak), 0, 0, 2, 0, 0, 0, 0, 0);
    }

    private static int[] values(ClockCrossings x) {
        int[] all = new int[x.count(0)];
        for (int n = 0; n < all.length; n++) {
            all[n] = x.node(n, 7);
        }
        return all;
    }

    /** Register 1 is unknown just behind the tick by which input 0 changes; inputs 2, 3 are as wished before. */
    private static void promise7Gates() {
        for (int wished = 0; wished < 4; wished++) {
            int v = wished & 1;
            int w = wished >> 1;
            ClockCrossings x = told("i0;r1 0;i2;i2;a1 2;o1 2;x1 2;a2 3;m1 2 3;o2 1;a3 1;p0 1;p1 1;p2 1;");
            x.wishes(2, v);
            x.wishes(3, w);
            x.ticks(1);
            x.wishes(0, 1);
            x.ticks(1);
            due("unknown", x.node(1, 7), 2);
            due("and of 2, " + v, x.node(4, 7), v == 0 ? 0 : 2);
            due("or of 2, " + v, x.node(5, 7), v == 1 ? 1 : 2);
            due("xor of 2, " + v, x.node(6, 7), 2);
            due("and", x.node(7, 7), v & w);
            due("choice by 2 of " + v + ", " + w, x.node(8, 7), v == w ? v : 2);
            due("or of " + v + ", 2", x.node(9, 7), v == 1 ? 1 : 2);
            due("and of " + w + ", 2", x.node(10, 7), w == 0 ? 0 : 2);
        }
        for (int bits = 0; bits < 8; bits++) {
            ClockCrossings x = told("i0;i0;i0;a0 1;o0 1;x0 1;m0 1 2;p0 1;");
            int a = bits & 1;
            int b = bits >> 1 & 1;
            int c = bits >> 2 & 1;
            x.wishes(0, a);
            x.wishes(1, b);
            x.wishes(2, c);
            x.ticks(1);
            dueAll("gates of " + bits, values(x), a, b, c, a & b, a | b, a ^ b, a == 0 ? b : c);
        }
    }

    private static void promise8() {
        ClockCrossings x = told("i0;r1 0;p0 1;p1 1;");
        due("undo of nothing", x.undo(), STATE);
        x.needs(3);
        x.wishes(0, 1);
        x.ticks(1);
        x.ticks(1);
        due("undoable", x.count(7), 4);
        due("undo ticks", x.undo(), 3);
        dueAll("as ahead", counts(x), 2, 0, 3, 1, 1, 0, 0, 3);
        due("value", x.node(1, 7), 2);
        due("undo ticks", x.undo(), 2);
        dueAll("as ahead", counts(x), 2, 0, 3, 0, 0, 0, 0, 2);
        due("wish", x.wish(0), 1);
        due("undo wishes", x.undo(), 1);
        due("wish", x.wish(0), 0);
        due("undo needs", x.undo(), 0);
        due("need", x.count(2), 2);
        due("undo", x.undo(), STATE);
        for (int i = 1; i <= 9; i++) {
            x.ticks(i);
        }
        due("six are known", x.count(7), 6);
        x.wishes(0, 0);
        due("refused is not known", x.undo(), 5);
        due("time", x.count(3), 36);
        x.ticks(1);
        due("undo of the new one", x.undo(), 5);
        due("time", x.count(3), 36);
        for (int left = 4; left >= 0; left--) {
            due("undo", x.undo(), left);
        }
        due("older ones are lost", x.count(3), 6);
        due("undo", x.undo(), STATE);
        due("the text is not undone", x.type('i'), 1);
        x.needs(4);
        x.undo();
        due("letters", x.count(6), 1);
    }

    private static void promise9() {
        ClockCrossings x = told("i0;i2;r1 0;a0 1;o3 2;x4 4;m2 5 1;r0 6;");
        dueNode(x, 0, 0, 0, NONE, NONE, NONE, 1, 1);
        dueNode(x, 1, 0, 2, NONE, NONE, NONE, 4, 2);
        dueNode(x, 2, 1, 1, 0, NONE, NONE, 2, 4);
        dueNode(x, 3, 2, NONE, 0, 1, NONE, 5, 3);
        dueNode(x, 4, 3, NONE, 3, 2, NONE, 7, 7);
        dueNode(x, 5, 4, NONE, 4, 4, NONE, 7, 7);
        dueNode(x, 6, 5, NONE, 2, 5, 1, 7, 7);
        dueNode(x, 7, 1, 0, 6, NONE, NONE, 1, 128);
        due("no node", x.node(8, 0), BAD);
        due("no node", x.node(-1, 0), BAD);
        due("what", x.node(0, 8), BAD);
        due("what", x.node(0, -1), BAD);
        due("fewer nodes", tell(x, "i1;i0;"), 2);
        due("no old node", x.node(2, 0), BAD);
        dueNode(x, 1, 0, 0, NONE, NONE, NONE, 1, 2);
    }

    private static void dueNode(ClockCrossings x, int n, int... want) {
        for (int what = 0; what < want.length; what++) {
            due("node(" + n + ", " + what + ")", x.node(n, what), want[what]);
        }
        due("node(" + n + ", 7)", x.node(n, 7), 0);
    }

    private static void promise10() {
        ClockCrossings x = told("i0;r1 0;r1 1;r1 2;r0 3;i1;a0 5;r1 6;r0 6;r2 6;");
        dueRegister(x, 1, 1, 3, 0);
        dueRegister(x, 2, 0, 2, NONE);
        dueRegister(x, 3, 0, 1, NONE);
        dueRegister(x, 4, 8, 1, 1);
        dueRegister(x, 7, 1, 1, 3);
        dueRegister(x, 8, 32, 1, 3);
        dueRegister(x, 9, 33, 1, 3);
        due("an input", x.register(0, 0), BAD);
        due("a gate", x.register(6, 0), BAD);
        due("none", x.register(10, 0), BAD);
        due("none", x.register(-1, 0), BAD);
        due("what", x.register(1, 3), BAD);
        due("what", x.register(1, -1), BAD);
        ClockCrossings two = told("i0;r1 0;r1 1;r1 1;");
        due("had by two: depth", two.register(1, 1), 1);
        due("had by two: kind", two.register(1, 2), 1);
        ClockCrossings gate = told("i0;r1 0;r1 1;x1 1;");
        due("had by a gate, too", gate.register(1, 1), 1);
        ClockCrossings other = told("i0;r1 0;r2 1;");
        due("had by another clock's", other.register(1, 1), 1);
        ClockCrossings four = told("i0;r1 0;r1 1;r1 2;r1 3;");
        due("depth 4", four.register(1, 1), 4);
        four.needs(4);
        due("safe at 4", four.register(1, 2), 0);
    }

    private static void dueRegister(ClockCrossings x, int n, int foreign, int depth, int kind) {
        due("register(" + n + ", 0)", x.register(n, 0), foreign);
        due("register(" + n + ", 1)", x.register(n, 1), depth);
        due("register(" + n + ", 2)", x.register(n, 2), kind);
    }

    private static void dueKind(String text, int n, int kind) {
        due("kind in " + text, told(text).register(n, 2), kind);
    }

    private static void promise10Held() {
        dueKind("i0;r1 0;r1 1;i1;i0;m2 3 4;r1 5;", 6, 2);
        dueKind("i0;r1 0;r1 1;i1;i0;m2 4 3;r1 5;", 6, 2);
        dueKind("i0;r1 0;r1 1;i1;i0;m2 4 4;r1 5;", 6, 2);
        dueKind("i0;r1 0;r1 1;i1;i0;m3 2 4;r1 5;", 6, 3);
        dueKind("i0;r1 0;r1 1;i1;i0;m4 3 2;r1 5;", 6, 3);
        dueKind("i0;r1 0;r1 1;i1;i0;a2 4;r1 5;", 6, 3);
        dueKind("i0;r1 0;r1 1;i1;i2;m2 3 4;r1 5;", 6, 3);
        dueKind("i0;r1 0;r1 1;i2;i0;m2 3 4;r1 5;", 6, 3);
        dueKind("i0;r1 0;i1;i0;m1 2 3;r1 4;", 5, 3);
        dueKind("i0;r1 0;r1 1;i1;i0;a2 3;m5 3 4;r1 6;", 7, 2);
        dueKind("i0;r1 0;r1 1;i1;i0;a2 3;r1 5;m6 3 4;r1 7;", 8, 2);
        dueKind("i0;r1 0;r1 1;i1;i0;r0 2;r1 5;r1 6;m7 3 4;r1 8;", 9, 2);
        dueKind("i2;r1 0;r1 1;i1;i0;r0 2;r1 5;m6 3 4;r1 7;", 8, 3);
        dueKind("i0;r1 0;r1 1;r0 2;r2 3;r2 4;i2;i1;m5 6 7;r2 8;", 9, 3);
        ClockCrossings need = told("i0;r1 0;r1 1;i1;i0;m2 3 4;r1 5;");
        need.needs(3);
        due("its row is not safe by 3", need.register(6, 2), 3);
        need.undo();
        due("undone", need.register(6, 2), 2);
    }

    private static void promise11() {
        ClockCrossings x = told(MEETING);
        due("how many", x.crossing(-1), 2);
        due("first", x.crossing(0), 4);
        due("second", x.crossing(1), 6);
        due("third", x.crossing(2), NONE);
        due("far", x.crossing(Integer.MAX_VALUE), NONE);
        due("below", x.crossing(-2), BAD);
        due("far below", x.crossing(Integer.MIN_VALUE), BAD);
        ClockCrossings none = told("i0;r0 0;");
        due("how many", none.crossing(-1), 0);
        due("first", none.crossing(0), NONE);
    }

    private static void promise12() {
        ClockCrossings x = told("i0;r1 0;r1 1;i1;i0;m2 3 4;r1 5;r2 4;r2 3;a0 3;r1 9;r2 9;r1 5;");
        dueAll("kinds", new int[] {x.kinds(0), x.kinds(1), x.kinds(2), x.kinds(3)}, 1, 2, 2, 2);
        x.needs(3);
        dueAll("kinds", new int[] {x.kinds(0), x.kinds(1), x.kinds(2), x.kinds(3)}, 0, 3, 0, 4);
        due("kinds", x.kinds(4), BAD);
        due("kinds", x.kinds(-1), BAD);
        due("no crossing is of no kind", x.kinds(NONE), BAD);
    }

    private static void promise13() {
        ClockCrossings x = told(MEETING);
        due("how many", x.join(-1, 0), 1);
        dueAll("join", new int[] {x.join(0, 0), x.join(0, 1), x.join(0, 2), x.join(1, 0), x.join(1, 2)}, 4, 6, 8, NONE, NONE);
        due("what", x.join(-1, 1), BAD);
        due("what", x.join(-1, 2), BAD);
        due("what", x.join(0, 3), BAD);
        due("what", x.join(0, -1), BAD);
        due("what ahead of none", x.join(9, 3), BAD);
        due("k", x.join(-2, 0), BAD);
        ClockCrossings three = told("i0;i0;i0;r1 0;r1 1;r1 2;o4 5;a3 6;x3 4;r1 7;");
        due("three pairs", three.join(-1, 0), 3);
        int[][] pairs = {{3, 4, 7}, {3, 5, 7}, {4, 5, 6}};
        for (int k = 0; k < 3; k++) {
            for (int what = 0; what < 3; what++) {
                due("join(" + k + ", " + what + ")", three.join(k, what), pairs[k][what]);
            }
        }
        ClockCrossings behind = told("i0;i0;r1 0;r1 1;r1 2;r1 3;i2;m6 4 5;");
        due("behind more registers", behind.join(0, 2), 7);
        ClockCrossings unsafe = told("i0;i0;r1 0;r1 1;x2 3;");
        due("unsafe ones, too", unsafe.join(-1, 0), 1);
        due("and kinds", unsafe.kinds(1), 2);
        ClockCrossings registers = told("i0;i0;r1 0;r1 1;x2 3;g2 3;");
        due("a mark of the registers is none of their nodes", registers.join(-1, 0), 1);
    }

    private static void promise13NoJoins() {
        String[] texts = {
            MEETING + "g1 3;", MEETING + "e3 1;", MEETING + "g1 3;g1 0;g3 0;", MEETING + "e3 1;g3 0;e2 1;",
            "i0;i0;r1 0;r1 1;r1 2;r1 3;",
            "i0;r1 0;r1 0;a1 2;",
            "i0;i2;r1 0;r1 1;a2 3;",
            "i0;i0;r1 0;r2 1;a2 3;",
            "i0;i0;r1 0;r1 1;r0 2;a4 3;",
            "i0;i0;i1;a0 2;a1 2;r1 3;r1 4;a5 6;",
            "i1;i1;r1 0;r1 1;a2 3;",
        };
        for (String text : texts) {
            due("joins of " + text, told(text).join(-1, 0), 0);
            due("join of " + text, told(text).join(0, 0), NONE);
        }
        due("a mark of others", told(MEETING + "g0 2;").join(-1, 0), 1);
        due("a mark of one", told(MEETING + "g1 2;e3 4;").join(-1, 0), 1);
    }

    private static void promise14() {
        due("safe, 2", told("i0;r1 0;r1 1;p1 1;").risk(), 2500);
        due("safe, 3", told("i0;r1 0;r1 1;r1 2;p1 1;").risk(), 1250);
        due("safe, 4", told("i0;r1 0;r1 1;r1 2;r1 3;p1 1;").risk(), 625);
        due("unsafe", told("i0;r1 0;p1 1;").risk(), 7500);
        due("unsafe, by a period", told("i0;r1 0;").risk(), 2500);
        due("gated", told("i0;a0 0;r1 1;p1 1;").risk(), 15000);
        due("gated, by a period", told("i0;a0 0;r1 1;p1 7;").risk(), 2142);
        due("its own clock's period", told("i0;r2 0;p0 1;p1 1;p2 9;").risk(), 833);
        due("held", told("i0;r1 0;r1 1;i1;i0;m2 3 4;r1 5;p1 1;").risk(), 3750);
        due("none", told("i0;r0 0;").risk(), 0);
        ClockCrossings x = told("i0;r1 0;r1 1;p1 1;");
        x.needs(3);
        due("needs changes it", x.risk(), 7500);
        float sum = 0f;
        for (int n = 1; n < 16; n++) {
            sum = sum + 0.75f / 7f;
        }
        due("in floats", told("i0;r1 0;r1 0;r1 0;r1 0;r1 0;r1 0;r1 0;r1 0;r1 0;r1 0;r1 0;r1 0;r1 0;r1 0;r1 0;p1 7;").risk(),
                (int) (10000f * sum));
    }

    private static void promise15() {
        ClockCrossings x = told("p1 9;");
        dueAll("period", new int[] {x.period(0), x.period(1), x.period(2), x.period(3), x.period(-1)}, 2, 9, 5, BAD, BAD);
        tell(x, "p2 1;");
        dueAll("not told: as at first", new int[] {x.period(0), x.period(1), x.period(2)}, 2, 3, 1);
        tell(x, "p0 6;");
        dueAll("not told: as at first", new int[] {x.period(0), x.period(1), x.period(2)}, 6, 3, 5);
        tell(x, "");
        dueAll("none told", new int[] {x.period(0), x.period(1), x.period(2)}, 2, 3, 5);
    }

    private static void promise16() {
        ClockCrossings x = told("i0;r1 0;a0 1;i2;");
        dueAll("wish", new int[] {x.wish(0), x.wish(1), x.wish(2), x.wish(3), x.wish(4), x.wish(-1)}, 0, BAD, BAD, 0, BAD, BAD);
        x.wishes(3, 1);
        dueAll("wish", new int[] {x.wish(0), x.wish(3)}, 0, 1);
    }

    private static void promise17() {
        ClockCrossings x = told("i0;r1 0;r1 1;a0 2;p0 2;p1 2;");
        due("now", x.when(3, 0), 0);
        due("never", x.when(3, 1), NONE);
        due("never unknown", x.when(1, 2), NONE);
        x.wishes(0, 1);
        due("input", x.when(0, 1), 2);
        due("unknown", x.when(1, 2), 2);
        due("settles", x.when(1, 1), 4);
        due("the gate", x.when(3, 1), 4);
        dueAll("nothing is changed", counts(x), 4, 0, 2, 0, 0, 0, 0, 1);
        due("value", x.node(0, 7), 0);
        due("no node", x.when(4, 0), BAD);
        due("no node", x.when(-1, 0), BAD);
        due("no value", x.when(0, 3), BAD);
        due("no value", x.when(0, -1), BAD);
        for (int i = 0; i < 10; i++) {
            x.ticks(99);
        }
        x.ticks(9);
        x.wishes(0, 0);
        due("beyond 999", x.when(0, 0), 1);
        due("beyond 999", x.when(2, 0), 3);
        due("time", x.count(3), 999);
        ClockCrossings far = told("i2;r2 0;r2 1;r2 2;r2 3;r2 4;r2 5;r2 6;r2 7;r2 8;r2 9;r2 10;p2 9;");
        far.wishes(0, 1);
        due("99 ticks", far.when(10, 1), 99);
        due("100 and more ticks", far.when(11, 1), NONE);
        far.ticks(9);
        due("99 ticks on", far.when(11, 1), 99);
    }

    private static void promise18And19() {
        ClockCrossings x = told("i0;r1 0;p0 1;p1 1;");
        due("none was kept", x.back(0), STATE);
        due("bad", x.back(2), BAD);
        due("bad", x.back(-1), BAD);
        due("bad", x.keep(2), BAD);
        due("bad", x.keep(-1), BAD);
        due("keep", x.keep(0), 0);
        due("none was kept", x.back(1), STATE);
        x.wishes(0, 1);
        x.needs(4);
        x.ticks(1);
        due("keep", x.keep(1), 1);
        due("keep leaves what may be undone", x.count(7), 3);
        x.ticks(5);
        x.type('i');
        due("back", x.back(1), 1);
        dueAll("as kept", counts(x), 2, 0, 4, 1, 1, 0, 1, 0);
        due("value", x.node(1, 7), 2);
        due("wish", x.wish(0), 1);
        due("nothing can be undone", x.undo(), STATE);
        due("back to the other", x.back(0), 0);
        dueAll("as kept", counts(x), 2, 0, 2, 0, 0, 0, 1, 0);
        due("wish", x.wish(0), 0);
        x.ticks(3);
        due("an image stays", x.back(1), 1);
        x.ticks(3);
        due("kept anew", x.keep(1), 4);
        x.undo();
        due("undone, images stay", x.count(3), 1);
        due("back", x.back(1), 4);
        due("refused back keeps undo", x.ticks(1), 0);
        x.back(2);
        due("undoable", x.count(7), 1);
    }

    private static void promise20() {
        ClockCrossings x = told("i0;r1 0;a0 1;g0 1;p0 1;p1 1;");
        x.needs(3);
        x.wishes(0, 1);
        x.ticks(2);
        write(x, "i0; ");
        dueAll("count", counts(x), 3, 1, 3, 2, 1, 0, 4, 3);
        due("bad", x.count(8), BAD);
        due("bad", x.count(-1), BAD);
    }
}
