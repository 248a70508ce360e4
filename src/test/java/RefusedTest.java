/** Whatever state it is in: a refused call answers as the document says and changes nothing; a call that shows changes nothing. */
public final class RefusedTest {
    /** All kinds of nodes and crossings, joins, six marks, other periods. */
    private static final String RICH_TEXT = "i0;i0;i1;r1 0;r1 3;r1 1;m4 2 1;r1 6;a0 2;r1 8;o4 5;r2 10;r2 11;x8 9;r0 13;r2 2;"
            + "g0 2;e1 2;g3 5;e0 4;g1 15;e2 3;p0 1;p1 2;p2 3;";
    private static final Run NEW = new Run();
    private static final Run RICH = new Run().tell(RICH_TEXT).then("ticks", 1).then("wishes", 0, 1).then("wishes", 1, 1)
            .then("ticks", 2).then("keep", 0).then("needs", 3).then("ticks", 4).then("keep", 1).then("wishes", 2, 1)
            .then("wishes", 1, 0).then("needs", 2).then("ticks", 1).write("i0;r3");
    private static final Run FULL_TEXT = new Run().tell("i0;r1 0;i2;p0 1;p1 1;").then("wishes", 0, 1).then("ticks", 1)
            .then("keep", 1).then("needs", 4).write("i0;p0 9;").often(152, "type", ' ').then("ticks", 1);
    private static final Run LAST_TIME = new Run().tell("i0;i1;a0 1;r1 2;r1 3;p0 1;p1 3;").then("keep", 0).then("wishes", 1, 1)
            .often(10, "ticks", 99).then("ticks", 5).then("wishes", 0, 1).then("ticks", 1).then("ticks", 3).then("needs", 3);
    private static final Run[] ALL = {NEW, RICH, FULL_TEXT, LAST_TIME};
    private static final int[] FAR = {Checks.LEAST, Checks.LEAST + 1, -65536, -256, 65536, Checks.MOST - 1, Checks.MOST};

    private RefusedTest() {
    }

    public static void main(String[] args) throws ReflectiveOperationException {
        Checks.runAll(RefusedTest.class, 1, 20);
    }

    /** What the states are made for: else the tests below would show nothing. */
    static void promise1TheStatesAreRich() {
        ClockCrossings rich = RICH.made();
        Checks.dueRow("counts", Checks.counts(rich), 16, 6, 2, 8, 9, 3, 5, 6);
        Checks.dueRow("kinds", new int[] {rich.kinds(0), rich.kinds(1), rich.kinds(2), rich.kinds(3)}, 1, 2, 1, 3);
        Checks.due("joins", rich.join(-1, 0), 1);
        Checks.dueRow("counts", Checks.counts(FULL_TEXT.made()), 3, 0, 4, 2, 1, 0, 160, 4);
        Checks.dueRow("counts", Checks.counts(LAST_TIME.made()), 5, 0, 3, 999, 1, 1, 0, 6);
    }

    private static void dueAll(String name, int[] bad, int answer) {
        for (Run ahead : ALL) {
            for (int a : bad) {
                Checks.dueUnchanged(ahead, name, a, answer);
            }
            for (int a : FAR) {
                Checks.dueUnchanged(ahead, name, a, answer);
            }
        }
    }

    /** All calls of this name that only show, one behind the other. */
    private static void dueShowsOnly(String name) {
        for (Run ahead : ALL) {
            Run behind = ahead;
            for (Run.Call call : Run.showingCalls()) {
                if (call.name().equals(name)) {
                    behind = behind.then(call);
                }
            }
            Checks.dueAlike("all " + name + "(..)", behind, ahead);
        }
    }

    static void promise2TypeBad() {
        dueAll("type", new int[] {-1, 256, 256 + ' ', -256 + 'i'}, Checks.BAD);
    }

    static void promise2TypeFull() {
        for (int letter : new int[] {0, ' ', ';', 'i', 255}) {
            Checks.dueUnchanged(FULL_TEXT, "type", letter, Checks.FULL);
        }
    }

    static void promise3ClearOfAnEmptyText() {
        Checks.dueUnchanged(NEW, "clear", 0);
        Checks.dueUnchanged(LAST_TIME, "clear", 0);
        Checks.dueUnchanged(RICH.then("clear"), "clear", 0);
        Checks.dueUnchanged(FULL_TEXT.then("clear"), "clear", 0);
    }

    static void promise4TellsWithAFault() {
        String[] faulty = {"z", "i", "p0 9;p1 9;p2 9;i0;i0;i0;r1 0;g0 1;x", "i0;".repeat(16) + "g0 1;".repeat(7), "i0;r1 1;"};
        int[] places = {0, 1, 35, 78, 6};
        for (Run state : ALL) {
            for (int i = 0; i < faulty.length; i++) {
                Run ahead = state.then("clear").write(faulty[i]);
                Checks.dueUnchanged(ahead, "tells", -10 - places[i]);
                Checks.dueAlike("a fault, cleared", ahead.then("tells").then("clear"), state.then("clear"));
            }
        }
        Checks.dueUnchanged(RICH, "tells", -14);
    }

    static void promise5NeedsBadOrState() {
        dueAll("needs", new int[] {-2, -1, 0, 1, 5, 6}, Checks.BAD);
        for (Run ahead : ALL) {
            Checks.dueUnchanged(ahead, "needs", ahead.then("count", 2).answer(), Checks.STATE);
        }
    }

    static void promise6WishesBadOrState() {
        for (Run ahead : ALL) {
            int nodes = ahead.then("count", 0).answer();
            for (int n = -1; n <= 16; n++) {
                boolean isInput = n >= 0 && n < nodes && ahead.then("node", n, 0).answer() == 0;
                int wish = ahead.then("wish", n).answer();
                for (int v : new int[] {Checks.LEAST, -1, 0, 1, 2, Checks.MOST}) {
                    if (!isInput || v < 0 || v > 1) {
                        Checks.dueUnchanged(ahead, "wishes", n, v, Checks.BAD);
                    } else if (v == wish) {
                        Checks.dueUnchanged(ahead, "wishes", n, v, Checks.STATE);
                    }
                }
            }
            for (int n : FAR) {
                Checks.dueUnchanged(ahead, "wishes", n, 1, Checks.BAD);
            }
        }
    }

    static void promise7TicksBadOrState() {
        dueAll("ticks", new int[] {-1, 0, 100, 101}, Checks.BAD);
        for (int n : new int[] {1, 2, 98, 99}) {
            Checks.dueUnchanged(LAST_TIME, "ticks", n, Checks.STATE);
        }
    }

    static void promise8UndoState() {
        for (Run state : ALL) {
            Run ahead = state.often(state.then("count", 7).answer(), "undo", 0);
            Checks.dueUnchanged(ahead, "undo", Checks.STATE);
        }
    }

    static void promise9NodeShowsOnly() {
        dueShowsOnly("node");
    }

    static void promise10RegisterShowsOnly() {
        dueShowsOnly("register");
    }

    static void promise11CrossingShowsOnly() {
        dueShowsOnly("crossing");
    }

    static void promise12KindsShowsOnly() {
        dueShowsOnly("kinds");
    }

    static void promise13JoinShowsOnly() {
        dueShowsOnly("join");
    }

    static void promise14RiskShowsOnly() {
        dueShowsOnly("risk");
    }

    static void promise15PeriodShowsOnly() {
        dueShowsOnly("period");
    }

    static void promise16WishShowsOnly() {
        dueShowsOnly("wish");
    }

    static void promise17WhenShowsOnly() {
        dueShowsOnly("when");
    }

    static void promise18KeepBad() {
        dueAll("keep", new int[] {-2, -1, 2, 3}, Checks.BAD);
    }

    static void promise19BackBadOrState() {
        dueAll("back", new int[] {-2, -1, 2, 3}, Checks.BAD);
        Checks.dueUnchanged(NEW, "back", 0, Checks.STATE);
        Checks.dueUnchanged(NEW, "back", 1, Checks.STATE);
        Checks.dueUnchanged(FULL_TEXT, "back", 0, Checks.STATE);
        Checks.dueUnchanged(LAST_TIME, "back", 1, Checks.STATE);
    }

    static void promise20CountShowsOnly() {
        dueShowsOnly("count");
    }
}
