import java.util.ArrayList;
import java.util.List;

/** A run of calls, to be made on new objects as often as a test likes; never more than the document's 512 on one. */
final class Run {
    static final int MOST_CALLS = 512;
    private static final int[] FAR = {Integer.MIN_VALUE, Integer.MAX_VALUE};
    private static final List<Call> SHOWING = showing();

    private final List<Call> calls;
    /** Kept, since many calls are tried behind one run. */
    private List<String> shown;

    Run() {
        calls = List.of();
    }

    private Run(List<Call> ahead, Call last) {
        List<Call> all = new ArrayList<>(ahead);
        all.add(last);
        calls = all;
    }

    Run then(Call call) {
        return new Run(calls, call);
    }

    Run then(String name) {
        return then(new Call(name, 0, 0));
    }

    Run then(String name, int a) {
        return then(new Call(name, a, 0));
    }

    Run then(String name, int a, int b) {
        return then(new Call(name, a, b));
    }

    Run often(int times, String name, int a) {
        Run run = this;
        for (int i = 0; i < times; i++) {
            run = run.then(name, a);
        }
        return run;
    }

    Run write(String text) {
        Run run = this;
        for (int i = 0; i < text.length(); i++) {
            run = run.then("type", text.charAt(i));
        }
        return run;
    }

    Run tell(String text) {
        return write(text).then("tells");
    }

    int size() {
        return calls.size();
    }

    Call last() {
        return calls.get(calls.size() - 1);
    }

    ClockCrossings made() {
        ClockCrossings x = new ClockCrossings();
        answerOn(x);
        return x;
    }

    /** What the last call of the run answers. */
    int answer() {
        return answerOn(new ClockCrossings());
    }

    private int answerOn(ClockCrossings x) {
        if (calls.size() > MOST_CALLS) {
            throw new IllegalStateException("a run of too many calls");
        }
        int answer = 0;
        for (Call call : calls) {
            answer = call.on(x);
        }
        return answer;
    }

    /** The calls of the face that only show, with all arguments that matter and some outside. */
    static List<Call> showingCalls() {
        return SHOWING;
    }

    private static List<Call> showing() {
        List<Call> all = new ArrayList<>();
        addAll(all, "node", -1, 16, -1, 8);
        addAll(all, "register", -1, 16, -1, 3);
        addAll(all, "crossing", -2, 16, 0, 0);
        addAll(all, "kinds", -1, 4, 0, 0);
        addAll(all, "join", -2, 12, -1, 3);
        addAll(all, "risk", 0, 0, 0, 0);
        addAll(all, "period", -1, 3, 0, 0);
        addAll(all, "wish", -1, 16, 0, 0);
        addAll(all, "when", -1, 16, -1, 3);
        addAll(all, "count", -1, 8, 0, 0);
        for (int far : FAR) {
            for (String name : List.of("node", "register", "crossing", "kinds", "join", "period", "wish", "when", "count")) {
                all.add(new Call(name, far, 0));
                all.add(new Call(name, 0, far));
            }
        }
        return all;
    }

    private static void addAll(List<Call> all, String name, int a0, int a1, int b0, int b1) {
        for (int a = a0; a <= a1; a++) {
            for (int b = b0; b <= b1; b++) {
                all.add(new Call(name, a, b));
            }
        }
    }

    /** All that calls tell of the state behind the run: those that show it, and what undo, back, tells, clear bring to light. */
    List<String> shown() {
        if (shown == null) {
            shown = show();
        }
        return shown;
    }

    private List<String> show() {
        List<String> all = new ArrayList<>();
        ClockCrossings x = made();
        int made = calls.size();
        for (Call call : SHOWING) {
            if (made == MOST_CALLS) {
                x = made();
                made = calls.size();
            }
            made++;
            all.add(call + ": " + call.on(x));
        }
        Run undone = this;
        for (int i = 1; i <= 7; i++) {
            undone = undone.then("undo");
            undone.addNow("undo " + i, all);
        }
        then("back", 0).addNow("back(0)", all);
        then("back", 1).addNow("back(1)", all);
        then("tells").addNow("tells()", all);
        then("clear").addNow("clear()", all);
        then("type", ' ').addNow("type(32)", all);
        return all;
    }

    private void addNow(String behind, List<String> all) {
        ClockCrossings x = new ClockCrossings();
        all.add(behind + ": " + answerOn(x));
        for (int what = 0; what < 8; what++) {
            all.add(behind + ", count(" + what + "): " + x.count(what));
        }
        for (int n = 0; n < 16; n++) {
            all.add(behind + ", node(" + n + ", 7): " + x.node(n, 7));
            all.add(behind + ", wish(" + n + "): " + x.wish(n));
        }
        for (int clock = 0; clock < 3; clock++) {
            all.add(behind + ", period(" + clock + "): " + x.period(clock));
        }
    }

    /** A call of the face; what it does not take of a and b is left. */
    record Call(String name, int a, int b) {
        int on(ClockCrossings x) {
            return switch (name) {
                case "type" -> x.type(a);
                case "clear" -> x.clear();
                case "tells" -> x.tells();
                case "needs" -> x.needs(a);
                case "wishes" -> x.wishes(a, b);
                case "ticks" -> x.ticks(a);
                case "undo" -> x.undo();
                case "node" -> x.node(a, b);
                case "register" -> x.register(a, b);
                case "crossing" -> x.crossing(a);
                case "kinds" -> x.kinds(a);
                case "join" -> x.join(a, b);
                case "risk" -> x.risk();
                case "period" -> x.period(a);
                case "wish" -> x.wish(a);
                case "when" -> x.when(a, b);
                case "keep" -> x.keep(a);
                case "back" -> x.back(a);
                case "count" -> x.count(a);
                default -> throw new IllegalArgumentException(name);
            };
        }

        @Override
        public String toString() {
            return name + "(" + a + ", " + b + ")";
        }
    }
}
