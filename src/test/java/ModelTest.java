import java.util.ArrayDeque;
import java.util.ArrayList;
import java.util.Deque;
import java.util.List;
import java.util.Random;
import java.util.Set;
import java.util.TreeSet;
import java.util.regex.Matcher;
import java.util.regex.Pattern;

/** Runs of calls, made by a fixed seed, on the class and on a plainer program of the same document. */
public final class ModelTest {
    private static final int BAD = -1, STATE = -2, FULL = -3, NONE = -9;
    private static final int RUNS = 4000;
    private static final int CALLS = 512;
    private static final String[] CIRCUITS = {
        "i0;r0 0;i0;r0 2;r1 1;r1 4;r1 3;r1 6;a5 7;r1 8;",
        "i0;i0;r1 0;r1 2;i1;m3 4 1;r1 5;x0 4;r1 7;",
        "i0;r1 0;r1 1;r0 2;r0 3;i1;m4 0 5;r0 6;m2 5 0;r1 8;",
        "i0;i0;i0;r1 0;r1 1;r1 2;o4 5;a3 6;x3 4;r1 7;r1 9;",
        "i2;r1 0;r1 1;r1 2;i1;a3 4;r1 5;m6 4 0;r1 7;r2 8;",
    };

    private final Random random;
    private final Model model = new Model();
    private final ClockCrossings x = new ClockCrossings();
    private final List<String> story = new ArrayList<>();
    private static final int[] SEEN_KINDS = new int[4];
    private static int seenJoins, seenLeaks, seenFaults, seenTold, seenNever, seenUnknown;

    private ModelTest(long seed) {
        random = new Random(seed);
    }

    public static void main(String[] args) {
        int wrong = 0;
        for (int seed = 1; seed <= RUNS && wrong < 5; seed++) {
            wrong += new ModelTest(seed).run() ? 0 : 1;
        }
        boolean met = seenJoins > 0 && seenLeaks > 0 && seenFaults > 0 && seenTold > 0 && seenNever > 0 && seenUnknown > 0;
        for (int kind : SEEN_KINDS) {
            met &= kind > 0;
        }
        System.out.println(RUNS + " runs against the model, " + wrong + " wrong; met: kinds " + java.util.Arrays.toString(SEEN_KINDS)
                + ", joins " + seenJoins + ", leaks " + seenLeaks + ", faults " + seenFaults + ", told " + seenTold
                + ", never " + seenNever + ", unknown " + seenUnknown);
        if (wrong != 0 || !met) {
            System.exit(1);
        }
    }

    private boolean run() {
        int left = CALLS;
        while (left > 0) {
            int text = random.nextInt(80) == 0 || model.nodes.isEmpty() ? 1 : 0;
            if (text == 1 && left > 170) {
                String told = someText();
                for (int i = 0; i < told.length(); i++) {
                    if (!call("type", told.charAt(i), 0)) {
                        return false;
                    }
                }
                if (!call("tells", 0, 0)) {
                    return false;
                }
                left -= told.length() + 1;
                if (model.text.length() > 0) {
                    left--;
                    if (!call("clear", 0, 0)) {
                        return false;
                    }
                }
            } else {
                left--;
                if (!someCall()) {
                    return false;
                }
            }
        }
        return true;
    }

    private int near(int low, int high) {
        return random.nextInt(12) == 0 ? low - 1 + random.nextInt(high - low + 3) : low + random.nextInt(high - low + 1);
    }

    private boolean someCall() {
        int top = Math.max(0, model.nodes.size() - 1);
        switch (random.nextInt(26)) {
            case 0: return call("needs", near(2, 4), 0);
            case 1:
            case 2:
            case 3: return call("wishes", random.nextBoolean() ? near(0, Math.min(2, top)) : near(0, top), near(0, 1));
            case 4:
            case 5:
            case 6:
            case 7: return call("ticks", random.nextInt(8) == 0 ? near(1, 99) : near(1, 4), 0);
            case 8: return call("undo", 0, 0);
            case 9:
            case 10: return call("node", near(0, top), random.nextBoolean() ? 7 : near(0, 7));
            case 11:
            case 12:
            case 13: return call("register", near(0, top), near(0, 2));
            case 14: return call("crossing", near(-1, 5), 0);
            case 15: return call("kinds", near(0, 3), 0);
            case 16:
            case 17: return call("join", near(-1, 3), near(0, 2));
            case 18: return call("risk", 0, 0);
            case 19: return call("period", near(0, 2), 0);
            case 20: return call("wish", near(0, top), 0);
            case 21:
            case 22: return call("when", near(0, top), near(0, 2));
            case 23: return call("keep", near(0, 1), 0);
            case 24: return random.nextInt(3) != 0 || call("back", near(0, 1), 0);
            default: return call("count", near(0, 7), 0);
        }
    }

    private boolean call(String name, int a, int b) {
        int got = answer(name, a, b);
        int want = model.answer(name, a, b);
        story.add(name + "(" + a + ", " + b + ") = " + got);
        look(name, a, b, want);
        if (got == want) {
            return true;
        }
        System.out.println(story);
        System.out.println(name + "(" + a + ", " + b + ") answered " + got + ", the model " + want);
        return false;
    }

    private static void look(String name, int a, int b, int want) {
        if (name.equals("register") && b == 2 && want >= 0) {
            SEEN_KINDS[want]++;
        }
        seenJoins += name.equals("join") && a >= 0 && want >= 0 ? 1 : 0;
        seenLeaks += name.equals("count") && a == 5 && want > 0 ? 1 : 0;
        seenFaults += name.equals("tells") && want < 0 ? 1 : 0;
        seenTold += name.equals("tells") && want > 0 ? 1 : 0;
        seenNever += name.equals("when") && want == NONE ? 1 : 0;
        seenUnknown += name.equals("node") && b == 7 && want == 2 ? 1 : 0;
    }

    private int answer(String name, int a, int b) {
        switch (name) {
            case "type": return x.type(a);
            case "clear": return x.clear();
            case "tells": return x.tells();
            case "needs": return x.needs(a);
            case "wishes": return x.wishes(a, b);
            case "ticks": return x.ticks(a);
            case "undo": return x.undo();
            case "node": return x.node(a, b);
            case "register": return x.register(a, b);
            case "crossing": return x.crossing(a);
            case "kinds": return x.kinds(a);
            case "join": return x.join(a, b);
            case "risk": return x.risk();
            case "period": return x.period(a);
            case "wish": return x.wish(a);
            case "when": return x.when(a, b);
            case "keep": return x.keep(a);
            case "back": return x.back(a);
            default: return x.count(a);
        }
    }

    // ---- texts

    private String someText() {
        StringBuilder text = new StringBuilder();
        if (random.nextInt(3) == 0) {
            text.append(CIRCUITS[random.nextInt(CIRCUITS.length)]);
        }
        List<Integer> leaves = new ArrayList<>();
        int nodes = 0;
        for (String item : text.toString().split("(?<=;)")) {
            nodes = countNode(item, nodes, leaves);
        }
        int clocks = 2 + random.nextInt(2);
        int items = random.nextInt(20);
        for (int i = 0; i < items && text.length() < 140; i++) {
            String item = someItem(nodes, clocks, leaves);
            if (nodes < 16 || "pge".indexOf(item.trim().charAt(0)) >= 0 || random.nextInt(9) == 0) {
                nodes = countNode(item, nodes, leaves);
                text.append(item);
            }
        }
        if (random.nextInt(3) == 0) {
            text.append("p0 2;p1 ").append(1 + random.nextInt(2)).append(";p2 1;");
        }
        if (random.nextInt(4) == 0) {
            spoil(text);
        }
        text.setLength(Math.min(text.length(), 165));
        return text.toString();
    }

    private static int countNode(String item, int nodes, List<Integer> leaves) {
        char letter = (item.trim() + ";").charAt(0);
        if (letter == 'i' || letter == 'r') {
            leaves.add(nodes);
        }
        return "iraoxm".indexOf(letter) >= 0 ? nodes + 1 : nodes;
    }

    private String someItem(int nodes, int clocks, List<Integer> leaves) {
        int kind = random.nextInt(20);
        String gap = random.nextInt(3) == 0 ? " " : "";
        if (nodes == 0 || kind < 3) {
            return "i" + gap + random.nextInt(clocks) + gap + ";";
        }
        if (kind < 12) {
            int node = random.nextInt(3) == 0 ? random.nextInt(nodes) : Math.max(0, nodes - 1 - random.nextInt(3));
            return "r" + random.nextInt(clocks) + " " + gap + node + gap + ";";
        }
        if (kind < 15) {
            return "aox".charAt(kind - 12) + gap + random.nextInt(nodes) + " " + random.nextInt(nodes) + ";";
        }
        if (kind < 17) {
            return "m" + random.nextInt(nodes) + " " + gap + random.nextInt(nodes) + " " + random.nextInt(nodes) + ";";
        }
        if (kind == 17) {
            return gap + "p" + random.nextInt(3) + " " + (1 + random.nextInt(9)) + gap + ";";
        }
        if (leaves.size() < 2 || random.nextInt(20) == 0) {
            return "g" + random.nextInt(nodes) + " " + random.nextInt(nodes) + ";";
        }
        int one = random.nextInt(leaves.size());
        int other = (one + 1 + random.nextInt(leaves.size() - 1)) % leaves.size();
        return (kind == 18 ? "g" : "e") + leaves.get(one) + " " + leaves.get(other) + ";";
    }

    private void spoil(StringBuilder text) {
        String signs = "iraoxmpge;0123456789   zI-";
        int often = 1 + random.nextInt(2);
        for (int i = 0; i < often && text.length() > 0; i++) {
            int place = random.nextInt(text.length());
            char sign = random.nextInt(20) == 0 ? (char) random.nextInt(256) : signs.charAt(random.nextInt(signs.length()));
            switch (random.nextInt(4)) {
                case 0: text.insert(place, sign); break;
                case 1: text.setCharAt(place, sign); break;
                case 2: text.deleteCharAt(place); break;
                default: text.setLength(place); break;
            }
        }
    }

    // ---- the model

    /** A node; its letter is that of its item. */
    private static final class Node {
        final int number;
        final char letter;
        final int clock;
        final List<Node> has = new ArrayList<>();

        Node(int number, char letter, int clock) {
            this.number = number;
            this.letter = letter;
            this.clock = clock;
        }

        boolean isInput() {
            return letter == 'i';
        }

        boolean isRegister() {
            return letter == 'r';
        }

        boolean isGate() {
            return !isInput() && !isRegister();
        }
    }

    private static final class Now {
        int need = 2, time, struck, leaked;
        int[] leaf = new int[16];
        int[] wish = new int[16];

        Now another() {
            Now now = new Now();
            now.need = need;
            now.time = time;
            now.struck = struck;
            now.leaked = leaked;
            now.leaf = leaf.clone();
            now.wish = wish.clone();
            return now;
        }
    }

    private static final class Fault extends Exception {
        private static final long serialVersionUID = 1L;
        final int place;

        Fault(int place) {
            this.place = place;
        }
    }

    /** The tokens of a text, one by one. */
    private static final class Tokens {
        final String text;
        final Matcher matcher;

        Tokens(String text) {
            this.text = text;
            matcher = Pattern.compile("[0-9]+|[^ ]", Pattern.DOTALL).matcher(text);
        }

        boolean more() {
            return matcher.find();
        }

        String expect(String pattern) throws Fault {
            if (!matcher.find()) {
                throw new Fault(text.length());
            }
            return check(pattern);
        }

        String check(String pattern) throws Fault {
            if (!matcher.group().matches(pattern)) {
                throw fault();
            }
            return matcher.group();
        }

        Fault fault() {
            return new Fault(matcher.start());
        }

        int number(int low, int high) throws Fault {
            int number = Integer.parseInt(expect("0|[1-9][0-9]?"));
            if (number < low || number > high) {
                throw fault();
            }
            return number;
        }
    }

    private static final class Model {
        StringBuilder text = new StringBuilder();
        List<Node> nodes = new ArrayList<>();
        List<Set<Integer>> marks = new ArrayList<>();
        int[] periods = {2, 3, 5};
        Now now = new Now();
        Deque<Now> past = new ArrayDeque<>();
        Now[] images = new Now[2];

        int answer(String name, int a, int b) {
            switch (name) {
                case "type": return type(a);
                case "clear": return clear();
                case "tells": return tells();
                case "needs": return needs(a);
                case "wishes": return wishes(a, b);
                case "ticks": return ticks(a);
                case "undo": return undo();
                case "node": return node(a, b);
                case "register": return register(a, b);
                case "crossing": return crossing(a);
                case "kinds": return kinds(a);
                case "join": return join(a, b);
                case "risk": return risk();
                case "period": return a < 0 || a > 2 ? BAD : periods[a];
                case "wish": return input(a) ? now.wish[a] : BAD;
                case "when": return when(a, b);
                case "keep": return keep(a);
                case "back": return back(a);
                default: return count(a);
            }
        }

        int type(int letter) {
            if (letter < 0 || letter > 255) {
                return BAD;
            }
            if (text.length() == 160) {
                return FULL;
            }
            text.append((char) letter);
            return text.length();
        }

        int clear() {
            int had = text.length();
            text = new StringBuilder();
            return had;
        }

        int tells() {
            Model fresh = new Model();
            int items = 0;
            Tokens tokens = new Tokens(text.toString());
            try {
                while (tokens.more()) {
                    fresh.item(tokens);
                    items++;
                }
            } catch (Fault fault) {
                return -10 - fault.place;
            }
            text = fresh.text;
            nodes = fresh.nodes;
            marks = fresh.marks;
            periods = fresh.periods;
            now = fresh.now;
            past = fresh.past;
            images = fresh.images;
            return items;
        }

        void item(Tokens tokens) throws Fault {
            char letter = tokens.check("[iraoxmpge]").charAt(0);
            if (letter == 'p') {
                int clock = tokens.number(0, 2);
                int period = tokens.number(1, 9);
                tokens.expect(";");
                periods[clock] = period;
            } else if (letter == 'g' || letter == 'e') {
                mark(tokens);
            } else {
                if (nodes.size() == 16) {
                    throw tokens.fault();
                }
                Node node = new Node(nodes.size(), letter, letter == 'i' || letter == 'r' ? tokens.number(0, 2) : NONE);
                int parts = letter == 'i' ? 0 : letter == 'r' ? 1 : letter == 'm' ? 3 : 2;
                for (int i = 0; i < parts; i++) {
                    node.has.add(nodes.get(tokens.number(0, nodes.size() - 1)));
                }
                tokens.expect(";");
                nodes.add(node);
            }
        }

        void mark(Tokens tokens) throws Fault {
            if (marks.size() == 6) {
                throw tokens.fault();
            }
            Set<Integer> mark = new TreeSet<>();
            for (int i = 0; i < 2; i++) {
                int leaf = tokens.number(0, nodes.size() - 1);
                if (nodes.get(leaf).isGate() || !mark.add(leaf)) {
                    throw tokens.fault();
                }
            }
            tokens.expect(";");
            marks.add(mark);
        }

        boolean there(int n) {
            return n >= 0 && n < nodes.size();
        }

        boolean input(int n) {
            return there(n) && nodes.get(n).isInput();
        }

        void remember() {
            past.push(now.another());
            if (past.size() > 6) {
                past.removeLast();
            }
        }

        int needs(int n) {
            if (n < 2 || n > 4) {
                return BAD;
            }
            if (now.need == n) {
                return STATE;
            }
            remember();
            int was = now.need;
            now.need = n;
            return was;
        }

        int wishes(int n, int v) {
            if (!input(n) || v < 0 || v > 1) {
                return BAD;
            }
            if (now.wish[n] == v) {
                return STATE;
            }
            remember();
            now.wish[n] = v;
            return 1 - v;
        }

        int ticks(int n) {
            if (n < 1 || n > 99) {
                return BAD;
            }
            if (now.time + n > 999) {
                return STATE;
            }
            remember();
            int struck = now.struck;
            for (int i = 0; i < n; i++) {
                now = tick(now);
            }
            return now.struck - struck;
        }

        int undo() {
            if (past.isEmpty()) {
                return STATE;
            }
            now = past.pop();
            return past.size();
        }

        /** Which leaves change is asked of the leaves themselves, again and again: slow, but plain. */
        Now tick(Now was) {
            Now next = was.another();
            next.time++;
            for (Node node : nodes) {
                if (!node.isGate()) {
                    next.leaf[node.number] = becomes(node, was, next.time);
                }
                if (node.isRegister() && next.time % periods[node.clock] == 0) {
                    if (struck(node, was, next.time)) {
                        next.struck++;
                    } else if (!settles(node, was) && value(node.has.get(0), was) == 2) {
                        next.leaked++;
                    }
                }
            }
            return next;
        }

        int becomes(Node leaf, Now was, int time) {
            if (time % periods[leaf.clock] != 0) {
                return was.leaf[leaf.number];
            }
            if (leaf.isInput()) {
                return was.wish[leaf.number];
            }
            if (struck(leaf, was, time)) {
                return 2;
            }
            Node taken = leaf.has.get(0);
            if (settles(leaf, was)) {
                int settled = value(taken.has.get(0), was);
                return settled == 2 ? 0 : settled;
            }
            return value(taken, was);
        }

        boolean struck(Node register, Now was, int time) {
            for (Node leaf : foreign(register)) {
                if (time % periods[leaf.clock] == 0 && becomes(leaf, was, time) != was.leaf[leaf.number]) {
                    return true;
                }
            }
            return false;
        }

        boolean settles(Node register, Now was) {
            Node taken = register.has.get(0);
            return taken.isRegister() && taken.clock == register.clock && direct(taken) && value(taken, was) == 2;
        }

        int value(Node node, Now at) {
            if (!node.isGate()) {
                return at.leaf[node.number];
            }
            int[] v = new int[node.has.size()];
            for (int i = 0; i < v.length; i++) {
                v[i] = value(node.has.get(i), at);
            }
            // An unknown may be 0 or 1, each time it is had: a gate is known where all of that gives the same.
            Set<Integer> can = new TreeSet<>();
            for (int bits = 0; bits < 1 << v.length; bits++) {
                int[] w = new int[v.length];
                boolean fits = true;
                for (int i = 0; i < w.length; i++) {
                    w[i] = bits >> i & 1;
                    fits &= v[i] == 2 || v[i] == w[i];
                }
                if (fits) {
                    can.add(node.letter == 'a' ? w[0] & w[1] : node.letter == 'o' ? w[0] | w[1]
                            : node.letter == 'x' ? w[0] ^ w[1] : w[w[0] == 0 ? 1 : 2]);
                }
            }
            return can.size() == 1 ? can.iterator().next() : 2;
        }

        List<Node> leaves(Node node) {
            List<Node> all = new ArrayList<>();
            if (!node.isGate()) {
                all.add(node);
            } else {
                for (Node part : node.has) {
                    all.addAll(leaves(part));
                }
            }
            return new ArrayList<>(new java.util.LinkedHashSet<>(all));
        }

        List<Node> foreign(Node register) {
            List<Node> all = leaves(register.has.get(0));
            all.removeIf(leaf -> leaf.clock == register.clock);
            return all;
        }

        static int bits(List<Node> all) {
            int bits = 0;
            for (Node node : all) {
                bits |= 1 << node.number;
            }
            return bits;
        }

        static Set<Integer> clocks(List<Node> leaves) {
            Set<Integer> clocks = new TreeSet<>();
            for (Node leaf : leaves) {
                clocks.add(leaf.clock);
            }
            return clocks;
        }

        boolean crosses(Node node) {
            return node.isRegister() && !foreign(node).isEmpty();
        }

        boolean direct(Node node) {
            return node.isRegister() && foreign(node).contains(node.has.get(0));
        }

        int depth(Node register) {
            List<Node> havers = new ArrayList<>();
            for (Node other : nodes) {
                for (Node part : other.has) {
                    if (part == register) {
                        havers.add(other);
                    }
                }
            }
            if (havers.size() == 1 && havers.get(0).isRegister() && havers.get(0).clock == register.clock) {
                return 1 + depth(havers.get(0));
            }
            return 1;
        }

        Set<Integer> behind(Node node, int clock) {
            Set<Integer> all = new TreeSet<>();
            all.add(node.number);
            if (node.isGate() || node.isRegister() && node.clock == clock) {
                for (Node part : node.has) {
                    all.addAll(behind(part, clock));
                }
            }
            return all;
        }

        int kind(Node node) {
            if (!crosses(node)) {
                return NONE;
            }
            if (direct(node)) {
                return depth(node) >= now.need ? 0 : 1;
            }
            Node choice = node.has.get(0);
            Set<Integer> others = clocks(foreign(node));
            if (choice.letter != 'm' || others.size() != 1 || !clocks(leaves(choice.has.get(0))).equals(Set.of(node.clock))) {
                return 3;
            }
            for (int n : behind(choice.has.get(0), node.clock)) {
                Node r = nodes.get(n);
                if (r.isRegister() && r.clock == node.clock && direct(r) && kind(r) == 0 && others.contains(r.has.get(0).clock)) {
                    return 2;
                }
            }
            return 3;
        }

        /** Grown until it grows no more. */
        Set<Node> reached(Node from) {
            Set<Node> all = new java.util.HashSet<>();
            all.add(from);
            int size;
            do {
                size = all.size();
                for (Node node : nodes) {
                    boolean has = node.has.stream().anyMatch(all::contains);
                    if (has && (node.isGate() || node.clock == from.clock)) {
                        all.add(node);
                    }
                }
            } while (all.size() > size);
            return all;
        }

        List<int[]> joins() {
            List<int[]> all = new ArrayList<>();
            for (Node r : nodes) {
                for (Node q : nodes) {
                    if (r.number < q.number && direct(r) && direct(q) && r.clock == q.clock) {
                        Node a = r.has.get(0);
                        Node b = q.has.get(0);
                        Set<Node> both = reached(r);
                        both.retainAll(reached(q));
                        if (a != b && a.clock == b.clock && !marks.contains(Set.of(a.number, b.number)) && !both.isEmpty()) {
                            int where = both.stream().mapToInt(node -> node.number).min().getAsInt();
                            all.add(new int[] {r.number, q.number, where});
                        }
                    }
                }
            }
            return all;
        }

        int node(int n, int what) {
            if (!there(n) || what < 0 || what > 7) {
                return BAD;
            }
            Node node = nodes.get(n);
            if (what >= 2 && what <= 4) {
                return node.has.size() > what - 2 ? node.has.get(what - 2).number : NONE;
            }
            if (what == 5) {
                int bits = 0;
                for (int clock : clocks(leaves(node))) {
                    bits |= 1 << clock;
                }
                return bits;
            }
            return what == 0 ? "iraoxm".indexOf(node.letter) : what == 1 ? node.clock
                    : what == 6 ? bits(leaves(node)) : value(node, now);
        }

        int register(int n, int what) {
            if (!there(n) || !nodes.get(n).isRegister() || what < 0 || what > 2) {
                return BAD;
            }
            Node node = nodes.get(n);
            return what == 0 ? bits(foreign(node)) : what == 1 ? depth(node) : kind(node);
        }

        List<Node> crossings() {
            List<Node> all = new ArrayList<>(nodes);
            all.removeIf(node -> !crosses(node));
            return all;
        }

        int crossing(int k) {
            List<Node> all = crossings();
            return k < -1 ? BAD : k == -1 ? all.size() : k < all.size() ? all.get(k).number : NONE;
        }

        int kinds(int kind) {
            return kind < 0 || kind > 3 ? BAD : (int) crossings().stream().filter(node -> kind(node) == kind).count();
        }

        int join(int k, int what) {
            if (k < -1 || what < 0 || what > (k == -1 ? 0 : 2)) {
                return BAD;
            }
            List<int[]> all = joins();
            return k == -1 ? all.size() : k < all.size() ? all.get(k)[what] : NONE;
        }

        int risk() {
            float risk = 0f;
            for (Node node : crossings()) {
                float weight = new float[] {1f, 0.75f, 0.125f, 1.5f}[kind(node)];
                for (int i = 0; kind(node) == 0 && i < depth(node); i++) {
                    weight *= 0.5f;
                }
                risk += weight / (float) periods[node.clock];
            }
            return (int) (10000f * risk);
        }

        int when(int n, int v) {
            if (!there(n) || v < 0 || v > 2) {
                return BAD;
            }
            Now at = now;
            for (int passed = 0; passed <= 99; passed++) {
                if (value(nodes.get(n), at) == v) {
                    return passed;
                }
                at = tick(at);
            }
            return NONE;
        }

        int keep(int image) {
            if (image < 0 || image > 1) {
                return BAD;
            }
            images[image] = now.another();
            return now.time;
        }

        int back(int image) {
            if (image < 0 || image > 1) {
                return BAD;
            }
            if (images[image] == null) {
                return STATE;
            }
            now = images[image].another();
            past.clear();
            return now.time;
        }

        int count(int what) {
            int[] all = {nodes.size(), marks.size(), now.need, now.time, now.struck, now.leaked, text.length(), past.size()};
            return what < 0 || what > 7 ? BAD : all[what];
        }
    }
}
