/** Signals between three clocks, told by a text, judged and run. The document's promises say what each call answers. */
public final class ClockCrossings {
    public static final int BAD = -1, STATE = -2, FULL = -3, NONE = -9;

    private static final int MAX_LETTERS = 160;
    private static final int MAX_NODES = 16;
    private static final int MAX_PARTS = 3;
    private static final int MAX_MARKS = 6;
    private static final int CLOCKS = 3;
    private static final int MAX_PERIOD = 9;
    private static final int LEAST_NEED = 2;
    private static final int MOST_NEED = 4;
    private static final int MAX_TIME = 999;
    private static final int MOST_TICKS = 99;
    private static final int MAX_UNDONE = 6;
    private static final int MAX_IMAGES = 2;
    private static final int FAULT_AT_0 = -10;
    private static final int[] FIRST_PERIODS = {2, 3, 5};

    private static final int INPUT = 0;
    private static final int REGISTER = 1;
    private static final int AND = 2;
    private static final int OR = 3;
    private static final int XOR = 4;
    private static final int CHOICE = 5;

    private static final int UNKNOWN = 2;

    private static final int SAFE = 0;
    private static final int UNSAFE = 1;
    private static final int HELD = 2;
    private static final int GATED = 3;

    private final Text text;
    private Circuit circuit;
    /** Where a text is told to first, so that a fault in it leaves the circuit as it is. */
    private Circuit draft;
    private final Moment now;
    /** What may be undone, the latest first. */
    private final Moment[] past;
    private int undoable;
    private final Moment[] images;
    private final boolean[] kept;
    /** Rows for runs, made once: the moment ahead of a tick, and one that goes on while now stays. */
    private final Moment before;
    private final Moment later;

    public ClockCrossings() {
        text = new Text();
        circuit = new Circuit();
        draft = new Circuit();
        now = new Moment();
        before = new Moment();
        later = new Moment();
        past = new Moment[MAX_UNDONE];
        for (int i = 0; i < past.length; i++) {
            past[i] = new Moment();
        }
        images = new Moment[MAX_IMAGES];
        for (int i = 0; i < images.length; i++) {
            images[i] = new Moment();
        }
        kept = new boolean[MAX_IMAGES];
    }

    // ---- what is told

    public int type(int letter) {
        if (letter < 0 || letter > 255) {
            return BAD;
        }
        return text.put(letter) ? text.size : FULL;
    }

    public int clear() {
        int had = text.size;
        text.size = 0;
        return had;
    }

    public int tells() {
        int answer = text.readInto(draft);
        if (answer < 0) {
            return answer;
        }
        Circuit told = draft;
        draft = circuit;
        circuit = told;
        text.size = 0;
        now.begin();
        undoable = 0;
        for (int i = 0; i < kept.length; i++) {
            kept[i] = false;
        }
        return answer;
    }

    // ---- what is done

    public int needs(int n) {
        if (n < LEAST_NEED || n > MOST_NEED) {
            return BAD;
        }
        int was = now.need;
        if (was == n) {
            return STATE;
        }
        remember();
        now.need = n;
        return was;
    }

    public int wishes(int node, int v) {
        if (!circuit.isOf(node, INPUT) || v < 0 || v > 1) {
            return BAD;
        }
        int was = now.wishes[node];
        if (was == v) {
            return STATE;
        }
        remember();
        now.wishes[node] = v;
        return was;
    }

    public int ticks(int n) {
        if (n < 1 || n > MOST_TICKS) {
            return BAD;
        }
        if (now.time + n > MAX_TIME) {
            return STATE;
        }
        remember();
        int struckBefore = now.struck;
        for (int i = 0; i < n; i++) {
            tick(now);
        }
        return now.struck - struckBefore;
    }

    public int undo() {
        if (undoable <= 0) {
            return STATE;
        }
        Moment latest = past[0];
        now.copy(latest);
        for (int i = 1; i < past.length; i++) {
            past[i - 1] = past[i];
        }
        past[past.length - 1] = latest;
        undoable--;
        return undoable;
    }

    // ---- what there is

    public int node(int n, int what) {
        if (!circuit.isNode(n)) {
            return BAD;
        }
        switch (what) {
            case 0: return at(circuit.whats, n);
            case 1: return at(circuit.clocks, n);
            case 2: return circuit.partOf(n, 0);
            case 3: return circuit.partOf(n, 1);
            case 4: return circuit.partOf(n, 2);
            case 5: return circuit.clocksOf(at(circuit.leaves, n));
            case 6: return at(circuit.leaves, n);
            case 7: return at(now.values, n);
            default: return BAD;
        }
    }

    public int register(int n, int what) {
        if (!circuit.isOf(n, REGISTER)) {
            return BAD;
        }
        switch (what) {
            case 0: return at(circuit.foreign, n);
            case 1: return at(circuit.depths, n);
            case 2: return circuit.kindOf(n, now.need);
            default: return BAD;
        }
    }

    public int crossing(int k) {
        if (k < -1) {
            return BAD;
        }
        int found = 0;
        for (int n = 0; n < circuit.nodes; n++) {
            if (circuit.isCrossing(n)) {
                if (found == k) {
                    return n;
                }
                found++;
            }
        }
        return k == -1 ? found : NONE;
    }

    public int kinds(int kind) {
        if (kind < SAFE || kind > GATED) {
            return BAD;
        }
        int found = 0;
        for (int n = 0; n < circuit.nodes; n++) {
            if (circuit.kindOf(n, now.need) == kind) {
                found++;
            }
        }
        return found;
    }

    public int join(int k, int what) {
        if (k < -1 || what < 0 || what > 2 || k == -1 && what != 0) {
            return BAD;
        }
        int found = 0;
        for (int r = 0; r < circuit.nodes; r++) {
            for (int q = r + 1; q < circuit.nodes; q++) {
                int where = circuit.whereJoined(r, q);
                if (where != NONE) {
                    if (found == k) {
                        return what == 0 ? r : what == 1 ? q : where;
                    }
                    found++;
                }
            }
        }
        return k == -1 ? found : NONE;
    }

    public int risk() {
        float sum = 0f;
        for (int n = 0; n < circuit.nodes; n++) {
            if (circuit.isCrossing(n)) {
                sum = sum + circuit.weightOf(n, now.need) / (float) circuit.periodOf(at(circuit.clocks, n));
            }
        }
        return (int) (10000f * sum);
    }

    public int period(int clock) {
        return clock < 0 || clock >= CLOCKS ? BAD : circuit.periodOf(clock);
    }

    public int wish(int node) {
        return circuit.isOf(node, INPUT) ? at(now.wishes, node) : BAD;
    }

    public int when(int node, int v) {
        if (!circuit.isNode(node) || v < 0 || v > UNKNOWN) {
            return BAD;
        }
        later.copy(now);
        for (int passed = 0; passed <= MOST_TICKS; passed++) {
            if (at(later.values, node) == v) {
                return passed;
            }
            tick(later);
        }
        return NONE;
    }

    // ---- images

    public int keep(int image) {
        if (image < 0 || image >= MAX_IMAGES) {
            return BAD;
        }
        images[image].copy(now);
        kept[image] = true;
        return now.time;
    }

    public int back(int image) {
        if (image < 0 || image >= MAX_IMAGES) {
            return BAD;
        }
        if (!kept[image]) {
            return STATE;
        }
        now.copy(images[image]);
        undoable = 0;
        return now.time;
    }

    public int count(int what) {
        switch (what) {
            case 0: return circuit.nodes;
            case 1: return circuit.marks;
            case 2: return now.need;
            case 3: return now.time;
            case 4: return now.struck;
            case 5: return now.leaked;
            case 6: return text.size;
            case 7: return undoable;
            default: return BAD;
        }
    }

    private void tick(Moment moment) {
        before.copy(moment);
        moment.follow(before, circuit);
    }

    /** The oldest moment gives its place to the new one, so that none is ever made anew. */
    private void remember() {
        Moment oldest = past[past.length - 1];
        for (int i = past.length - 1; i > 0; i--) {
            past[i] = past[i - 1];
        }
        oldest.copy(now);
        past[0] = oldest;
        if (undoable < MAX_UNDONE) {
            undoable++;
        }
    }

    /** Rows are read by this wherever a number from elsewhere is the index: outside of the row there is NONE. */
    private static int at(int[] row, int index) {
        return index >= 0 && index < row.length ? row[index] : NONE;
    }

    private static boolean hasBit(int bits, int bit) {
        return bit >= 0 && bit < MAX_NODES && (bits >> bit & 1) != 0;
    }

    /** NEED and NOW. */
    private static final class Moment {
        private int need;
        private int time;
        private int struck;
        private int leaked;
        private final int[] values = new int[MAX_NODES];
        private final int[] wishes = new int[MAX_NODES];

        private Moment() {
            need = LEAST_NEED;
        }

        /** All gates of zeros are 0 themselves, so every value begins as 0. */
        private void begin() {
            need = LEAST_NEED;
            time = 0;
            struck = 0;
            leaked = 0;
            for (int n = 0; n < MAX_NODES; n++) {
                values[n] = 0;
                wishes[n] = 0;
            }
        }

        private void copy(Moment other) {
            need = other.need;
            time = other.time;
            struck = other.struck;
            leaked = other.leaked;
            System.arraycopy(other.values, 0, values, 0, MAX_NODES);
            System.arraycopy(other.wishes, 0, wishes, 0, MAX_NODES);
        }

        /**
         * One tick on from before, which this is a copy of. A node has only nodes of lower numbers,
         * so by rising numbers all that a node asks of this tick is known already.
         */
        private void follow(Moment before, Circuit circuit) {
            time = before.time + 1;
            int edges = circuit.edgesAt(time);
            int changed = 0;
            for (int n = 0; n < circuit.nodes; n++) {
                if (!circuit.isLeaf(n)) {
                    values[n] = gateValue(n, circuit);
                } else if (hasBit(edges, at(circuit.clocks, n))) {
                    values[n] = leafValue(n, before, circuit, changed);
                    if (values[n] != before.values[n]) {
                        changed |= 1 << n;
                    }
                }
            }
        }

        private int leafValue(int n, Moment before, Circuit circuit, int changed) {
            if (circuit.isOf(n, INPUT)) {
                return at(before.wishes, n);
            }
            if ((at(circuit.foreign, n) & changed) != 0) {
                struck++;
                return UNKNOWN;
            }
            int source = circuit.partOf(n, 0);
            int taken = at(before.values, source);
            if (taken == UNKNOWN && circuit.isDirect(source) && at(circuit.clocks, source) == at(circuit.clocks, n)) {
                int settled = at(before.values, circuit.partOf(source, 0));
                return settled == UNKNOWN ? 0 : settled;
            }
            if (taken == UNKNOWN) {
                leaked++;
            }
            return taken;
        }

        private int gateValue(int n, Circuit circuit) {
            int first = at(values, circuit.partOf(n, 0));
            int second = at(values, circuit.partOf(n, 1));
            switch (at(circuit.whats, n)) {
                case AND: return ruledBy(0, first, second);
                case OR: return ruledBy(1, first, second);
                case XOR: return first == UNKNOWN || second == UNKNOWN ? UNKNOWN : first ^ second;
                default: return chosen(first, second, at(values, circuit.partOf(n, 2)));
            }
        }

        /** AND is ruled by 0, OR by 1: one such value is enough, whatever is unknown. */
        private static int ruledBy(int ruler, int first, int second) {
            if (first == ruler || second == ruler) {
                return ruler;
            }
            return first == UNKNOWN || second == UNKNOWN ? UNKNOWN : 1 - ruler;
        }

        private static int chosen(int chooser, int second, int third) {
            if (chooser == UNKNOWN) {
                return second == third ? second : UNKNOWN;
            }
            return chooser == 0 ? second : third;
        }
    }

    /** All that a text tells, and what follows from that alone or from it and NEED. */
    private static final class Circuit {
        private int nodes;
        private int marks;
        private final int[] whats = new int[MAX_NODES];
        private final int[] clocks = new int[MAX_NODES];
        private final int[] parts = new int[MAX_NODES * MAX_PARTS];
        private final int[] partBits = new int[MAX_NODES];
        private final int[] leaves = new int[MAX_NODES];
        private final int[] foreign = new int[MAX_NODES];
        private final int[] depths = new int[MAX_NODES];
        private final int[] marked = new int[MAX_NODES];
        private final int[] periods = FIRST_PERIODS.clone();

        private void empty() {
            nodes = 0;
            marks = 0;
            System.arraycopy(FIRST_PERIODS, 0, periods, 0, CLOCKS);
        }

        private boolean isNode(int n) {
            return n >= 0 && n < nodes;
        }

        private boolean isOf(int n, int what) {
            return n >= 0 && n < nodes && whats[n] == what;
        }

        private boolean isLeaf(int n) {
            return n >= 0 && n < nodes && (whats[n] == INPUT || whats[n] == REGISTER);
        }

        private int partOf(int n, int i) {
            return at(parts, n * MAX_PARTS + i);
        }

        private int periodOf(int clock) {
            int period = at(periods, clock);
            return period >= 1 ? period : 1;
        }

        private int edgesAt(int time) {
            int edges = 0;
            for (int clock = 0; clock < CLOCKS; clock++) {
                if (time % periodOf(clock) == 0) {
                    edges |= 1 << clock;
                }
            }
            return edges;
        }

        // ---- how it is told

        private boolean hasRoomFor(int letter) {
            switch (letter) {
                case 'p': return true;
                case 'g':
                case 'e': return marks < MAX_MARKS;
                default: return nodes < MAX_NODES;
            }
        }

        /** Shapes are those of Text.shapeOf; first is the number ahead of this one in the item. */
        private boolean allows(int shape, int number, int first) {
            switch (shape) {
                case 'C': return number < CLOCKS;
                case 'P': return number >= 1 && number <= MAX_PERIOD;
                case 'N': return isNode(number);
                case 'L': return isLeaf(number);
                case 'M': return isLeaf(number) && number != first;
                default: return false;
            }
        }

        private void add(int letter, int first, int second, int third) {
            switch (letter) {
                case 'i': addNode(INPUT, first, NONE, NONE, NONE); break;
                case 'r': addNode(REGISTER, first, second, NONE, NONE); break;
                case 'a': addNode(AND, NONE, first, second, NONE); break;
                case 'o': addNode(OR, NONE, first, second, NONE); break;
                case 'x': addNode(XOR, NONE, first, second, NONE); break;
                case 'm': addNode(CHOICE, NONE, first, second, third); break;
                case 'p': setPeriod(first, second); break;
                default: addMark(first, second); break;
            }
        }

        private void addNode(int what, int clock, int first, int second, int third) {
            if (nodes >= MAX_NODES) {
                return;
            }
            int n = nodes;
            whats[n] = what;
            clocks[n] = clock;
            marked[n] = 0;
            partBits[n] = 0;
            leaves[n] = what == INPUT || what == REGISTER ? 1 << n : 0;
            addPart(n, 0, first);
            addPart(n, 1, second);
            addPart(n, 2, third);
            foreign[n] = what == REGISTER ? unlikeClock(at(leaves, first), clock) : 0;
            nodes++;
        }

        private void addPart(int n, int i, int part) {
            parts[n * MAX_PARTS + i] = part;
            if (isNode(part)) {
                partBits[n] |= 1 << part;
                if (whats[n] != REGISTER) {
                    leaves[n] |= leaves[part];
                }
            }
        }

        private void setPeriod(int clock, int period) {
            if (clock >= 0 && clock < CLOCKS) {
                periods[clock] = period;
            }
        }

        private void addMark(int first, int second) {
            if (isNode(first) && isNode(second)) {
                marked[first] |= 1 << second;
                marked[second] |= 1 << first;
                marks++;
            }
        }

        /** A register is had by higher numbers alone, so falling numbers find the deeper ones known. */
        private void measureDepths() {
            for (int n = nodes - 1; n >= 0; n--) {
                int haver = onlyHaver(n);
                boolean goesOn = isOf(n, REGISTER) && isOf(haver, REGISTER) && clocks[haver] == clocks[n];
                depths[n] = goesOn ? depths[haver] + 1 : 1;
            }
        }

        /** The one node that has n; NONE, if there is none or more than one. (A gate may have n twice, but is no register.) */
        private int onlyHaver(int n) {
            int haver = NONE;
            for (int other = n + 1; other < nodes; other++) {
                if (hasBit(partBits[other], n)) {
                    if (haver != NONE) {
                        return NONE;
                    }
                    haver = other;
                }
            }
            return haver;
        }

        // ---- how it is judged

        private int clocksOf(int leafBits) {
            int bits = 0;
            for (int n = 0; n < nodes; n++) {
                if (hasBit(leafBits, n) && isLeaf(n)) {
                    bits |= 1 << clocks[n];
                }
            }
            return bits;
        }

        private int unlikeClock(int leafBits, int clock) {
            int unlike = leafBits;
            for (int n = 0; n < nodes; n++) {
                if (clocks[n] == clock) {
                    unlike &= ~(1 << n);
                }
            }
            return unlike;
        }

        private boolean isCrossing(int n) {
            return isNode(n) && foreign[n] != 0;
        }

        private boolean isDirect(int n) {
            return isNode(n) && hasBit(foreign[n], parts[n * MAX_PARTS]);
        }

        private boolean isSafe(int n, int need) {
            return isDirect(n) && at(depths, n) >= need;
        }

        private int kindOf(int n, int need) {
            if (!isCrossing(n)) {
                return NONE;
            }
            if (isDirect(n)) {
                return isSafe(n, need) ? SAFE : UNSAFE;
            }
            return isHeld(n, need) ? HELD : GATED;
        }

        private boolean isHeld(int n, int need) {
            int source = partOf(n, 0);
            int clock = at(clocks, n);
            int foreignClocks = clocksOf(at(foreign, n));
            if (!isOf(source, CHOICE) || Integer.bitCount(foreignClocks) != 1) {
                return false;
            }
            int chooser = partOf(source, 0);
            if (clocksOf(at(leaves, chooser)) != 1 << clock) {
                return false;
            }
            int behind = backFrom(chooser, clock);
            for (int r = 0; r < nodes; r++) {
                if (hasBit(behind, r) && clocks[r] == clock && isSafe(r, need)
                        && clocksOf(foreign[r]) == foreignClocks) {
                    return true;
                }
            }
            return false;
        }

        private int backFrom(int from, int clock) {
            int behind = 1 << from;
            for (int n = from; n >= 0; n--) {
                if (hasBit(behind, n) && passes(n, clock)) {
                    behind |= at(partBits, n);
                }
            }
            return behind;
        }

        private int reachedFrom(int from) {
            int reached = 1 << from;
            int clock = at(clocks, from);
            for (int n = from + 1; n < nodes; n++) {
                if ((partBits[n] & reached) != 0 && passes(n, clock)) {
                    reached |= 1 << n;
                }
            }
            return reached;
        }

        /** Whether a way along the nodes goes through n: through all gates, through registers of one clock. */
        private boolean passes(int n, int clock) {
            return !isLeaf(n) || isOf(n, REGISTER) && at(clocks, n) == clock;
        }

        /** The lowest node where r and q meet again; NONE, if they are no join. */
        private int whereJoined(int r, int q) {
            if (!isDirect(r) || !isDirect(q) || at(clocks, r) != at(clocks, q)) {
                return NONE;
            }
            int first = partOf(r, 0);
            int second = partOf(q, 0);
            if (first == second || at(clocks, first) != at(clocks, second) || hasBit(at(marked, first), second)) {
                return NONE;
            }
            return lowestBit(reachedFrom(r) & reachedFrom(q));
        }

        private static int lowestBit(int bits) {
            for (int bit = 0; bit < MAX_NODES; bit++) {
                if (hasBit(bits, bit)) {
                    return bit;
                }
            }
            return NONE;
        }

        private float weightOf(int n, int need) {
            switch (kindOf(n, need)) {
                case SAFE: return halved(at(depths, n));
                case UNSAFE: return 0.75f;
                case HELD: return 0.125f;
                default: return 1.5f;
            }
        }

        private static float halved(int often) {
            float weight = 1f;
            for (int i = 0; i < often; i++) {
                weight = weight * 0.5f;
            }
            return weight;
        }
    }

    /** THE TEXT, and how its tokens are read. */
    private static final class Text {
        /** Tokens are their letters themselves, but for these, which are no letters. */
        private static final int NUMBER = -1;
        private static final int END = -2;
        private static final int WRONG = -3;

        private final char[] letters = new char[MAX_LETTERS];
        private int size;
        private int next;
        private int place;
        private int token;
        private int number;
        private final int[] numbers = new int[MAX_PARTS];

        private boolean put(int letter) {
            if (size >= MAX_LETTERS) {
                return false;
            }
            letters[size] = (char) letter;
            size++;
            return true;
        }

        /** How many items it tells; or what tells() answers for a fault: then the circuit is of no use. */
        private int readInto(Circuit circuit) {
            circuit.empty();
            next = 0;
            for (int items = 0; items <= MAX_LETTERS; items++) {
                readToken();
                if (token == END) {
                    circuit.measureDepths();
                    return items;
                }
                if (!readItem(circuit)) {
                    break;
                }
            }
            return FAULT_AT_0 - place;
        }

        /** False, if the latest token can't stand there. */
        private boolean readItem(Circuit circuit) {
            int letter = token;
            String shape = shapeOf(letter);
            if (shape.isEmpty() || !circuit.hasRoomFor(letter)) {
                return false;
            }
            for (int i = 0; i < shape.length() && i < MAX_PARTS; i++) {
                readToken();
                if (token != NUMBER || !circuit.allows(shape.charAt(i), number, numbers[0])) {
                    return false;
                }
                numbers[i] = number;
            }
            readToken();
            if (token != ';') {
                return false;
            }
            circuit.add(letter, numbers[0], numbers[1], numbers[2]);
            return true;
        }

        /** C a clock, P a period, N a node, L a leaf, M a leaf unlike the first; empty: no item begins so. */
        private static String shapeOf(int letter) {
            switch (letter) {
                case 'i': return "C";
                case 'r': return "CN";
                case 'a':
                case 'o':
                case 'x': return "NN";
                case 'm': return "NNN";
                case 'p': return "CP";
                case 'g':
                case 'e': return "LM";
                default: return "";
            }
        }

        private void readToken() {
            while (next < size && letters[next] == ' ') {
                next++;
            }
            place = next;
            if (next >= size) {
                token = END;
            } else if (isFigure(letters[next])) {
                readNumber();
            } else {
                token = letters[next];
                next++;
            }
        }

        private void readNumber() {
            number = 0;
            while (next < size && isFigure(letters[next])) {
                number = Math.min(100, number * 10 + letters[next] - '0');
                next++;
            }
            boolean zeroAhead = letters[place] == '0' && next - place > 1;
            token = zeroAhead || number > 99 ? WRONG : NUMBER;
        }

        private static boolean isFigure(char letter) {
            return letter >= '0' && letter <= '9';
        }
    }
}
