import java.util.Arrays;

/**
 * A laboratory for weighted stack systems: machines with a few control states and a stack, whose
 * rules have weights. DOC.md says what each call answers, as numbered promises.
 */
public final class StackLab {
    public static final int BAD_NAME = -1;
    public static final int BAD_VALUE = -2;
    public static final int THERE = -3;
    public static final int FULL = -4;
    public static final int NOT_POSSIBLE = -5;
    public static final int NONE = -6;

    private static final int MOST_STATES = 4;
    private static final int MOST_SYMBOLS = 5;
    private static final int MOST_RULES = 20;
    private static final int MOST_WEIGHT = 20;
    private static final int MOST_KEPT = 8;
    private static final int MOST_START = 4;
    private static final int MOST_STACK = 6;
    private static final int MOST_WORD = 2;
    private static final int MOST_TEXT = 200;
    private static final int MOST_DIGITS = 10;
    private static final int LIMIT = 1000000;

    /** The indexes that witness() takes: 0 to 300. */
    private static final int TRACED = 301;
    /** The start stack, one more symbol for each traced rule, and some air. */
    private static final int TRACE_HEIGHT = MOST_START + TRACED + 5;

    /** The parts of a rule, in the order in which rule() numbers them. */
    private static final int PARTS = 5;
    private static final int FROM = 0;
    private static final int TOP = 1;
    private static final int TO = 2;
    private static final int WORD = 3;
    private static final int WEIGHT = 4;

    /** A head is a pair of a state and a symbol. */
    private static final int HEADS = MOST_STATES * MOST_SYMBOLS;
    private static final int PRICES = HEADS * MOST_STATES;

    /** Arcs end at the nodes of the heads and at those of the start stack; states are sources only. */
    private static final int ENDS = HEADS + MOST_START;
    private static final int SOURCES = MOST_STATES + ENDS;
    private static final int LABELS = MOST_SYMBOLS + 1;
    /** A rule makes an arc to each end and perhaps one more; the start stack makes one a symbol. */
    private static final int MOST_ARCS = MOST_RULES * (ENDS + 1) + MOST_START;
    private static final int FIRST_HEAD_NODE = 10;
    private static final int FIRST_CHAIN_NODE = 31;

    /**
     * A cost is a weight with a count below it (of rules or of symbols): one sum adds both, and one
     * comparison orders by weight first. Counts stay far below 2 to the 24.
     */
    private static final int SHIFT = 24;
    private static final long NO_COST = (LIMIT + 1L) << SHIFT;

    private final Setup now = new Setup();
    private final Setup draft = new Setup();
    private final History history = new History();
    private final Text text = new Text();
    private final Word asked = new Word();
    private final Word empty = new Word();
    private final Plan plan = new Plan();
    private final Summary whole = new Summary(plan);
    private final Summary partial = new Summary(plan);
    private final Search search = new Search(plan, whole, TRACE_HEIGHT);
    private final Search emptying = new Search(plan, whole, MOST_STACK);
    private final Search detour = new Search(plan, partial, MOST_STACK);
    private final Trace trace = new Trace();
    private final Machine machine = new Machine(plan, whole);
    private boolean planned;

    public StackLab() {
    }

    // ---- The system

    public int begin(int states, int symbols) {
        if (states < 1 || states > MOST_STATES || symbols < 1 || symbols > MOST_SYMBOLS) {
            return BAD_VALUE;
        }
        int before = now.count;
        recordChange();
        now.reset(states, symbols);
        return before;
    }

    public int addRule(int p, int x, int q, int word, int weight) {
        if (!isState(p) || !isSymbol(x) || !isState(q) || !isWord(word, 0, MOST_WORD)) {
            return BAD_NAME;
        }
        if (!isWeight(weight)) {
            return BAD_VALUE;
        }
        if (now.holds(p, x, q, word)) {
            return THERE;
        }
        if (now.count >= MOST_RULES) {
            return FULL;
        }
        recordChange();
        now.append(p, x, q, word, weight);
        return now.count - 1;
    }

    public int removeRule(int rule) {
        if (!isRule(rule)) {
            return BAD_NAME;
        }
        recordChange();
        now.leaveOut(rule);
        return now.count;
    }

    public int setWeight(int rule, int weight) {
        if (!isRule(rule)) {
            return BAD_NAME;
        }
        if (!isWeight(weight)) {
            return BAD_VALUE;
        }
        int before = now.part(rule, WEIGHT);
        recordChange();
        now.putWeight(rule, weight);
        return before;
    }

    public int setStart(int p, int word) {
        if (!isState(p) || !isWord(word, 1, MOST_START)) {
            return BAD_NAME;
        }
        int before = digitsOf(now.startStack);
        recordChange();
        now.startState = p;
        now.startStack = word;
        return before;
    }

    public int undo() {
        if (history.kept == 0) {
            return NOT_POSSIBLE;
        }
        history.restore(now);
        forgetAnswers();
        return history.kept;
    }

    public int told(int what) {
        switch (what) {
            case 0:
                return now.states;
            case 1:
                return now.symbols;
            case 2:
                return now.count;
            case 3:
                return now.startState;
            case 4:
                return now.startStack;
            case 5:
                return now.rulesWithWordOf(0);
            case 6:
                return now.rulesWithWordOf(1);
            case 7:
                return now.rulesWithWordOf(2);
            default:
                return BAD_VALUE;
        }
    }

    public int rule(int rule, int what) {
        if (!isRule(rule)) {
            return BAD_NAME;
        }
        if (what < 0 || what >= PARTS) {
            return BAD_VALUE;
        }
        return now.part(rule, what);
    }

    // ---- Distances and witnesses

    public int distance(int p, int word) {
        if (!isAsked(p, word)) {
            return BAD_NAME;
        }
        return weightOrNone(costTo(p));
    }

    public int steps(int p, int word) {
        if (!isAsked(p, word)) {
            return BAD_NAME;
        }
        long cost = costTo(p);
        return cost >= NO_COST ? NONE : countOf(cost);
    }

    public int witness(int p, int word, int k, int what) {
        if (!isAsked(p, word)) {
            return BAD_NAME;
        }
        if (k < 0 || k >= TRACED || what < 0 || what > 3) {
            return BAD_VALUE;
        }
        if (costTo(p) >= NO_COST) {
            return NONE;
        }
        trace.follow(search, plan);
        return k < trace.length ? trace.part(k, what) : NONE;
    }

    public float mean(int p, int word) {
        if (!isAsked(p, word)) {
            return (float) BAD_NAME;
        }
        long cost = costTo(p);
        if (cost >= NO_COST) {
            return (float) NONE;
        }
        int rules = countOf(cost);
        return rules == 0 ? 0.0f : (float) weightOf(cost) / (float) rules;
    }

    public int headDistance(int p, int x) {
        if (!isState(p) || !isSymbol(x)) {
            return BAD_NAME;
        }
        buildMachine();
        return weightOrNone(machine.costOfHead(headOf(p, x)));
    }

    public int nearestStack(int p, int x) {
        if (!isState(p) || !isSymbol(x)) {
            return BAD_NAME;
        }
        buildMachine();
        return machine.leastStack(headOf(p, x), x);
    }

    public int heads() {
        buildMachine();
        int reached = 0;
        for (int head = 0; head < HEADS; head++) {
            if (machine.costOfHead(head) < NO_COST) {
                reached++;
            }
        }
        return reached;
    }

    // ---- Summaries

    public int price(int p, int x, int q) {
        if (!isState(p) || !isSymbol(x) || !isState(q)) {
            return BAD_NAME;
        }
        makePlan();
        return weightOrNone(whole.costOfRemoving(headOf(p, x), q));
    }

    public int wordPrice(int p, int word, int q) {
        if (!isState(p) || !isWord(word, 0, MOST_STACK) || !isState(q)) {
            return BAD_NAME;
        }
        makePlan();
        emptying.aimAt(q, empty);
        return weightOrNone(emptying.costFrom(p, asked));
    }

    // ---- The machine

    public int arcs() {
        buildMachine();
        return machine.count;
    }

    public int arc(int k, int what) {
        if (k < 0 || what < 0 || what > 3) {
            return BAD_VALUE;
        }
        buildMachine();
        return k < machine.count ? machine.part(k, what) : NONE;
    }

    public int arcWeight(int from, int label, int to) {
        int source = sourceOf(from);
        int end = sourceOf(to) - MOST_STATES;
        if (source < 0 || end < 0 || label < 0 || label >= LABELS) {
            return NONE;
        }
        buildMachine();
        return machine.weightAt(source, label, end);
    }

    // ---- Rules that are left out

    public int distanceWithout(int rule, int p, int word) {
        if (!isRule(rule) || !isAsked(p, word)) {
            return BAD_NAME;
        }
        return weightOrNone(costWithout(rule, p));
    }

    public int critical(int p, int word) {
        if (!isAsked(p, word)) {
            return BAD_NAME;
        }
        long cost = costTo(p);
        if (cost >= NO_COST) {
            return NONE;
        }
        int suspects = rulesOfWitness();
        int found = 0;
        for (int r = 0; r < now.count; r++) {
            if ((suspects >> r & 1) != 0 && weightOf(costWithout(r, p)) != weightOf(cost)) {
                found |= 1 << r;
            }
        }
        return found;
    }

    public int tolerance(int rule, int p, int word) {
        if (!isRule(rule) || !isAsked(p, word)) {
            return BAD_NAME;
        }
        long cost = costTo(p);
        if (cost >= NO_COST) {
            return NONE;
        }
        // A lightest run without the rule keeps its weight; if there is none, raising by 1 raises all.
        boolean spared = weightOf(costWithout(rule, p)) == weightOf(cost);
        return spared ? MOST_WEIGHT - now.part(rule, WEIGHT) : 0;
    }

    // ---- The text

    public int write(int code) {
        if (code < 32 || code > 126) {
            return BAD_VALUE;
        }
        if (text.length >= MOST_TEXT) {
            return FULL;
        }
        text.append(code);
        return text.length;
    }

    public int wipe() {
        int before = text.length;
        text.length = 0;
        return before;
    }

    public int fault() {
        return readText();
    }

    public int load() {
        if (readText() != NONE) {
            return NOT_POSSIBLE;
        }
        recordChange();
        now.copyFrom(draft);
        return now.count;
    }

    // ---- What the calls share

    private boolean isState(int p) {
        return p >= 0 && p < now.states;
    }

    private boolean isSymbol(int x) {
        return x >= 1 && x <= now.symbols;
    }

    private boolean isRule(int k) {
        return k >= 0 && k < now.count;
    }

    private static boolean isWeight(int weight) {
        return weight >= 1 && weight <= MOST_WEIGHT;
    }

    /** Leaves the word's symbols in asked. */
    private boolean isWord(int number, int least, int most) {
        return asked.take(number, now.symbols) && asked.length >= least && asked.length <= most;
    }

    private boolean isAsked(int p, int word) {
        return isState(p) && isWord(word, 0, MOST_STACK);
    }

    private void recordChange() {
        history.record(now);
        forgetAnswers();
    }

    private void forgetAnswers() {
        planned = false;
        search.forgetAim();
        machine.built = false;
    }

    private void makePlan() {
        if (!planned) {
            plan.takeFrom(now);
            whole.compute(NONE);
            planned = true;
        }
    }

    private void buildMachine() {
        makePlan();
        machine.build();
    }

    /** The cost of the best runs to the configuration whose stack stands in asked. */
    private long costTo(int p) {
        makePlan();
        if (!search.isAimedAt(p, asked)) {
            search.aimAt(p, asked);
            search.costFrom(plan.startState, plan.start);
            trace.followed = false;
        }
        return search.total;
    }

    private long costWithout(int rule, int p) {
        makePlan();
        partial.compute(rule);
        detour.aimAt(p, asked);
        return detour.costFrom(plan.startState, plan.start);
    }

    /** A rule that is not in the witness is not critical; a witness too long to trace clears none. */
    private int rulesOfWitness() {
        trace.follow(search, plan);
        return trace.complete ? trace.used : (1 << now.count) - 1;
    }

    private int readText() {
        draft.copyFrom(now);
        return text.parse(draft);
    }

    private static int headOf(int state, int symbol) {
        return state * MOST_SYMBOLS + symbol - 1;
    }

    private static int weightOf(long cost) {
        return (int) (cost >> SHIFT);
    }

    private static int countOf(long cost) {
        return (int) (cost & ((1L << SHIFT) - 1));
    }

    private static long costOfWeight(int weight) {
        return (long) weight << SHIFT;
    }

    private static int weightOrNone(long cost) {
        return cost >= NO_COST ? NONE : weightOf(cost);
    }

    private static boolean lower(long[] row, int index, long cost) {
        if (cost >= row[index]) {
            return false;
        }
        row[index] = cost;
        return true;
    }

    private static int digitsOf(int number) {
        int digits = 0;
        int rest = number;
        for (int k = 0; k < MOST_DIGITS && rest > 0; k++) {
            rest = rest / 10;
            digits++;
        }
        return digits;
    }

    /** The source with this node number, or -1. */
    private static int sourceOf(int node) {
        if (node >= 0 && node < MOST_STATES) {
            return node;
        }
        if (node >= FIRST_HEAD_NODE && node < FIRST_HEAD_NODE + HEADS) {
            return node - FIRST_HEAD_NODE + MOST_STATES;
        }
        if (node >= FIRST_CHAIN_NODE && node < FIRST_CHAIN_NODE + MOST_START) {
            return node - FIRST_CHAIN_NODE + MOST_STATES + HEADS;
        }
        return -1;
    }

    private static int nodeOf(int source) {
        if (source < MOST_STATES) {
            return source;
        }
        int end = source - MOST_STATES;
        return end < HEADS ? FIRST_HEAD_NODE + end : FIRST_CHAIN_NODE + end - HEADS;
    }

    /** A system as it is told: its size, its rules and its start configuration. */
    private static final class Setup {
        int states = 2;
        int symbols = 3;
        int startState = 0;
        int startStack = 1;
        int count = 0;
        private final int[] parts = new int[MOST_RULES * PARTS];

        void reset(int newStates, int newSymbols) {
            states = newStates;
            symbols = newSymbols;
            startState = 0;
            startStack = 1;
            count = 0;
        }

        void copyFrom(Setup other) {
            states = other.states;
            symbols = other.symbols;
            startState = other.startState;
            startStack = other.startStack;
            count = other.count;
            System.arraycopy(other.parts, 0, parts, 0, parts.length);
        }

        int part(int k, int what) {
            return parts[k * PARTS + what];
        }

        void putWeight(int k, int weight) {
            parts[k * PARTS + WEIGHT] = weight;
        }

        boolean holds(int p, int x, int q, int word) {
            for (int k = 0; k < count; k++) {
                if (part(k, FROM) == p && part(k, TOP) == x && part(k, TO) == q && part(k, WORD) == word) {
                    return true;
                }
            }
            return false;
        }

        void append(int p, int x, int q, int word, int weight) {
            if (count >= MOST_RULES) {
                return;
            }
            int base = count * PARTS;
            parts[base + FROM] = p;
            parts[base + TOP] = x;
            parts[base + TO] = q;
            parts[base + WORD] = word;
            parts[base + WEIGHT] = weight;
            count++;
        }

        void leaveOut(int k) {
            int base = k * PARTS;
            System.arraycopy(parts, base + PARTS, parts, base, (count - k - 1) * PARTS);
            count--;
        }

        int rulesWithWordOf(int size) {
            int found = 0;
            for (int k = 0; k < count; k++) {
                if (digitsOf(part(k, WORD)) == size) {
                    found++;
                }
            }
            return found;
        }
    }

    /** The systems before the latest changes. */
    private static final class History {
        int kept = 0;
        private final Setup[] past = new Setup[MOST_KEPT];

        History() {
            for (int k = 0; k < MOST_KEPT; k++) {
                past[k] = new Setup();
            }
        }

        void record(Setup setup) {
            if (kept < MOST_KEPT) {
                kept++;
            } else {
                dropOldest();
            }
            past[kept - 1].copyFrom(setup);
        }

        /** The oldest one's room is used again for the newest. */
        private void dropOldest() {
            Setup room = past[0];
            for (int k = 1; k < MOST_KEPT; k++) {
                past[k - 1] = past[k];
            }
            past[MOST_KEPT - 1] = room;
        }

        void restore(Setup setup) {
            if (kept > 0) {
                kept--;
                setup.copyFrom(past[kept]);
            }
        }
    }

    /** The symbols of a word, the first one at index 0. */
    private static final class Word {
        int length = 0;
        final int[] symbols = new int[MOST_DIGITS];

        /** Tells whether the number is a word over this many symbols. */
        boolean take(int number, int most) {
            length = 0;
            if (number < 0) {
                return false;
            }
            int digits = digitsOf(number);
            int rest = number;
            for (int k = digits - 1; k >= 0; k--) {
                int digit = rest % 10;
                if (digit == 0 || digit > most) {
                    return false;
                }
                symbols[k] = digit;
                rest = rest / 10;
            }
            length = digits;
            return true;
        }
    }

    /** The text, and the reading of rules from it. */
    private static final class Text {
        int length = 0;
        private int at = 0;
        private final int[] codes = new int[MOST_TEXT];

        void append(int code) {
            if (length < MOST_TEXT) {
                codes[length] = code;
                length++;
            }
        }

        /** Puts the text's rules in place of the draft's; answers the fault, or NONE. */
        int parse(Setup draft) {
            at = 0;
            draft.count = 0;
            for (int item = 0; item <= MOST_RULES && at < length; item++) {
                if (item == MOST_RULES) {
                    return at;
                }
                int wrong = parseItem(draft);
                if (wrong != NONE) {
                    return wrong;
                }
            }
            return NONE;
        }

        private int parseItem(Setup draft) {
            int p = takeOneOf('0', draft.states);
            if (p < 0) {
                return at;
            }
            int x = takeOneOf('a', draft.symbols);
            if (x < 0 || takeOneOf('>', 1) < 0) {
                return at;
            }
            int q = takeOneOf('0', draft.states);
            if (q < 0) {
                return at;
            }
            int word = takeWord(draft.symbols);
            if (takeOneOf(':', 1) < 0) {
                return at;
            }
            int firstDigit = at;
            int weight = takeWeight();
            if (weight < 0) {
                return at;
            }
            if (!isWeight(weight)) {
                return firstDigit;
            }
            if (takeOneOf(';', 1) < 0) {
                return at;
            }
            if (draft.holds(p, x + 1, q, word)) {
                return at - 1;
            }
            draft.append(p, x + 1, q, word, weight);
            return NONE;
        }

        /** Goes on past one of the characters from first on and answers which; or stays, with -1. */
        private int takeOneOf(int first, int many) {
            if (at >= length || codes[at] < first || codes[at] >= first + many) {
                return -1;
            }
            int which = codes[at] - first;
            at++;
            return which;
        }

        private int takeWord(int symbols) {
            int word = 0;
            for (int k = 0; k < MOST_WORD; k++) {
                int symbol = takeOneOf('a', symbols);
                if (symbol < 0) {
                    return word;
                }
                word = word * 10 + symbol + 1;
            }
            return word;
        }

        private int takeWeight() {
            int first = takeOneOf('0', 10);
            if (first < 0) {
                return -1;
            }
            int second = takeOneOf('0', 10);
            return second < 0 ? first : first * 10 + second;
        }
    }

    /** The system in the form that the computations want. */
    private static final class Plan {
        int states = 0;
        int count = 0;
        int startState = 0;
        final Word start = new Word();
        final int[] head = new int[MOST_RULES];
        final int[] state = new int[MOST_RULES];
        /** The number of symbols of the rule's word. */
        final int[] size = new int[MOST_RULES];
        /** The head that a swap or a push leads to. */
        final int[] next = new int[MOST_RULES];
        /** The symbol that a push leaves below it. */
        final int[] below = new int[MOST_RULES];
        final long[] cost = new long[MOST_RULES];

        void takeFrom(Setup setup) {
            states = setup.states;
            count = setup.count;
            startState = setup.startState;
            start.take(setup.startStack, setup.symbols);
            for (int r = 0; r < count; r++) {
                takeRule(setup, r);
            }
        }

        private void takeRule(Setup setup, int r) {
            int word = setup.part(r, WORD);
            head[r] = headOf(setup.part(r, FROM), setup.part(r, TOP));
            state[r] = setup.part(r, TO);
            size[r] = digitsOf(word);
            next[r] = size[r] == 0 ? 0 : headOf(state[r], size[r] == 1 ? word : word / 10);
            below[r] = size[r] == 2 ? word % 10 : 0;
            cost[r] = costOfWeight(setup.part(r, WEIGHT)) + 1;
        }
    }

    /** What it costs to remove a symbol, and so what a head costs to turn into another one. */
    private static final class Summary {
        /** The rule that is left out, or a negative number. */
        int without = NONE;
        private final Plan plan;
        private final long[] prices = new long[PRICES];

        Summary(Plan plan) {
            this.plan = plan;
        }

        long costOfRemoving(int head, int to) {
            return prices[head * MOST_STATES + to];
        }

        /** A best run removes no head to a state within removing it so: PRICES rounds are enough. */
        void compute(int leftOut) {
            without = leftOut;
            Arrays.fill(prices, NO_COST);
            boolean changed = true;
            for (int round = 0; changed && round <= PRICES; round++) {
                changed = false;
                for (int r = 0; r < plan.count; r++) {
                    if (r != without && lowerPricesBy(r)) {
                        changed = true;
                    }
                }
            }
        }

        private boolean lowerPricesBy(int r) {
            int base = plan.head[r] * MOST_STATES;
            long cost = plan.cost[r];
            if (plan.size[r] == 0) {
                return lower(prices, base + plan.state[r], cost);
            }
            if (plan.size[r] == 1) {
                return lowerPricesThrough(base, plan.next[r], cost);
            }
            boolean changed = false;
            for (int middle = 0; middle < plan.states; middle++) {
                long first = cost + costOfRemoving(plan.next[r], middle);
                if (first < NO_COST && lowerPricesThrough(base, headOf(middle, plan.below[r]), first)) {
                    changed = true;
                }
            }
            return changed;
        }

        private boolean lowerPricesThrough(int base, int head, long before) {
            boolean changed = false;
            for (int to = 0; to < plan.states; to++) {
                if (lower(prices, base + to, before + costOfRemoving(head, to))) {
                    changed = true;
                }
            }
            return changed;
        }

        /** Lowers a row of costs by head to what the heads in it turn into. */
        void spread(long[] row) {
            boolean changed = true;
            for (int round = 0; changed && round <= HEADS; round++) {
                changed = false;
                for (int r = 0; r < plan.count; r++) {
                    if (r != without && row[plan.head[r]] < NO_COST && spreadBy(r, row)) {
                        changed = true;
                    }
                }
            }
        }

        private boolean spreadBy(int r, long[] row) {
            long cost = row[plan.head[r]] + plan.cost[r];
            if (plan.size[r] == 1) {
                return lower(row, plan.next[r], cost);
            }
            if (plan.size[r] == 0) {
                return false;
            }
            boolean changed = false;
            for (int middle = 0; middle < plan.states; middle++) {
                long removed = cost + costOfRemoving(plan.next[r], middle);
                if (lower(row, headOf(middle, plan.below[r]), removed)) {
                    changed = true;
                }
            }
            return changed;
        }

        /** Lowers a row of costs by head for the heads that turn into those in it. */
        void gather(long[] row) {
            boolean changed = true;
            for (int round = 0; changed && round <= HEADS; round++) {
                changed = false;
                for (int r = 0; r < plan.count; r++) {
                    if (r != without && gatherBy(r, row)) {
                        changed = true;
                    }
                }
            }
        }

        private boolean gatherBy(int r, long[] row) {
            int head = plan.head[r];
            long cost = plan.cost[r];
            if (plan.size[r] == 1) {
                return lower(row, head, cost + row[plan.next[r]]);
            }
            if (plan.size[r] == 0) {
                return false;
            }
            boolean changed = false;
            for (int middle = 0; middle < plan.states; middle++) {
                long removed = cost + costOfRemoving(plan.next[r], middle);
                if (lower(row, head, removed + row[headOf(middle, plan.below[r])])) {
                    changed = true;
                }
            }
            return changed;
        }
    }

    /**
     * What it costs to reach one configuration, the aim, from others. It holds a stack that grows
     * and shrinks at its top; for each height it keeps the costs from the part up to it by state.
     */
    private static final class Search {
        long total = NO_COST;
        int height = 0;
        private boolean aimed = false;
        private int aimState = 0;
        private int aimLength = 0;
        private final int[] aimSymbols = new int[MOST_STACK];
        /** Row i: the cost of turning a head into the first i + 1 symbols of the aim. */
        private final long[][] levels = new long[MOST_STACK][HEADS];
        private final Plan plan;
        private final Summary summary;
        private final int capacity;
        private final int[] stack;
        private final long[] costs;
        /** Tells for a height whether the part up to it is a lowest part of the aim's stack. */
        private final boolean[] alike;

        Search(Plan plan, Summary summary, int capacity) {
            this.plan = plan;
            this.summary = summary;
            this.capacity = capacity < MOST_STACK ? MOST_STACK : capacity;
            stack = new int[this.capacity];
            costs = new long[(this.capacity + 1) * MOST_STATES];
            alike = new boolean[this.capacity + 1];
        }

        boolean isAimedAt(int state, Word word) {
            if (!aimed || state != aimState || word.length != aimLength) {
                return false;
            }
            for (int i = 0; i < aimLength; i++) {
                if (aimSymbols[i] != word.symbols[i]) {
                    return false;
                }
            }
            return true;
        }

        void forgetAim() {
            aimed = false;
        }

        void aimAt(int state, Word word) {
            aimed = true;
            aimState = state;
            aimLength = Math.min(word.length, MOST_STACK);
            for (int i = 0; i < aimLength; i++) {
                aimSymbols[i] = word.symbols[i];
                fillLevel(i);
            }
        }

        private void fillLevel(int i) {
            Arrays.fill(levels[i], NO_COST);
            if (i == 0) {
                levels[0][headOf(aimState, aimSymbols[0])] = 0;
            } else {
                pushOnto(i);
            }
            summary.gather(levels[i]);
        }

        /** The lowest of several symbols that a head turns into was put below the others by a push. */
        private void pushOnto(int i) {
            for (int r = 0; r < plan.count; r++) {
                if (r != summary.without && plan.size[r] == 2 && plan.below[r] == aimSymbols[i]) {
                    lower(levels[i], plan.head[r], plan.cost[r] + levels[i - 1][plan.next[r]]);
                }
            }
        }

        /** Takes this stack and answers the cost of the best runs to the aim. */
        long costFrom(int state, Word word) {
            height = 0;
            alike[0] = true;
            for (int t = 0; t < MOST_STATES; t++) {
                costs[t] = aimLength == 0 && t == aimState ? 0 : NO_COST;
            }
            for (int i = word.length - 1; i >= 0; i--) {
                put(word.symbols[i]);
            }
            total = costs[height * MOST_STATES + state];
            return total;
        }

        int top() {
            return height == 0 ? 0 : stack[height - 1];
        }

        private void put(int symbol) {
            if (height >= capacity) {
                return;
            }
            for (int t = 0; t < plan.states; t++) {
                costs[(height + 1) * MOST_STATES + t] = costWithTop(t, symbol);
            }
            alike[height + 1] = alike[height] && height < aimLength
                    && aimSymbols[aimLength - 1 - height] == symbol;
            stack[height] = symbol;
            height++;
        }

        /** The cost from the state with this symbol put on the stack: it stays in part, or goes. */
        private long costWithTop(int state, int symbol) {
            int head = headOf(state, symbol);
            boolean canStay = alike[height] && height < aimLength;
            long least = canStay ? levels[aimLength - 1 - height][head] : NO_COST;
            for (int t = 0; t < plan.states; t++) {
                long gone = summary.costOfRemoving(head, t) + costs[height * MOST_STATES + t];
                least = Math.min(least, gone);
            }
            return least;
        }

        /** Applies the first rule that begins a run of just this cost to the aim; answers it, or -1. */
        int advance(int state, long left) {
            if (height == 0) {
                return -1;
            }
            int head = headOf(state, top());
            height--;
            for (int r = 0; r < plan.count; r++) {
                if (plan.head[r] == head && plan.cost[r] + costAfter(r) == left) {
                    apply(r);
                    return r;
                }
            }
            return -1;
        }

        /** The cost that is left after a rule that has taken the symbol on top. */
        private long costAfter(int r) {
            int state = plan.state[r];
            if (plan.size[r] == 0) {
                return costs[height * MOST_STATES + state];
            }
            int symbol = plan.next[r] % MOST_SYMBOLS + 1;
            if (plan.size[r] == 1) {
                return costWithTop(state, symbol);
            }
            put(plan.below[r]);
            long cost = costWithTop(state, symbol);
            height--;
            return cost;
        }

        private void apply(int r) {
            if (plan.size[r] == 2) {
                put(plan.below[r]);
            }
            if (plan.size[r] > 0) {
                put(plan.next[r] % MOST_SYMBOLS + 1);
            }
        }
    }

    /** The first rules of a witness, and the configurations before them. */
    private static final class Trace {
        /** To be set to false when the search gets another aim. */
        boolean followed = false;
        /** Tells whether the whole witness is here. */
        boolean complete = false;
        int length = 0;
        /** The rules that occur, as a set of bits. */
        int used = 0;
        private final int[] rules = new int[TRACED];
        private final int[] states = new int[TRACED];
        private final int[] tops = new int[TRACED];
        private final int[] heights = new int[TRACED];

        void follow(Search search, Plan plan) {
            if (followed) {
                return;
            }
            int state = plan.startState;
            long left = search.costFrom(state, plan.start);
            length = 0;
            used = 0;
            for (int k = 0; k < TRACED && left > 0; k++) {
                states[k] = state;
                tops[k] = search.top();
                heights[k] = search.height;
                int r = search.advance(state, left);
                if (r < 0) {
                    break;
                }
                rules[k] = r;
                used |= 1 << r;
                length = k + 1;
                left -= plan.cost[r];
                state = plan.state[r];
            }
            complete = left == 0;
            followed = true;
        }

        int part(int k, int what) {
            switch (what) {
                case 0:
                    return rules[k];
                case 1:
                    return states[k];
                case 2:
                    return tops[k];
                default:
                    return heights[k];
            }
        }
    }

    /**
     * The machine that reads the reached stacks. Its ends are numbered 0 to 19 for the heads and
     * from 20 on for the start stack; a source is a state, or 4 more than an end.
     */
    private static final class Machine {
        boolean built = false;
        int count = 0;
        private final Plan plan;
        private final Summary summary;
        /** The weights of the arcs by source, label and end; NONE where there is no arc. */
        private final int[] weights = new int[SOURCES * LABELS * ENDS];
        /** Row e: the cost with which a head's state reads its symbol up to the end e. */
        private final long[][] reads = new long[ENDS][HEADS];
        /** The least weight from an end to the final one, and the fewest symbols with it. */
        private final long[] home = new long[ENDS];
        private final boolean[] open = new boolean[HEADS];
        private final int[] opened = new int[HEADS];
        private int openCount = 0;
        private final int[] sources = new int[MOST_ARCS];
        private final int[] labels = new int[MOST_ARCS];
        private final int[] ends = new int[MOST_ARCS];

        Machine(Plan plan, Summary summary) {
            this.plan = plan;
            this.summary = summary;
        }

        void build() {
            if (built) {
                return;
            }
            Arrays.fill(weights, NONE);
            for (int e = 0; e < ENDS; e++) {
                Arrays.fill(reads[e], NO_COST);
            }
            for (int head = 0; head < HEADS; head++) {
                open[head] = false;
            }
            openCount = 0;
            readStartStack();
            for (int k = 0; k < openCount && k < HEADS; k++) {
                readFromHead(opened[k]);
            }
            listArcs();
            findWaysHome();
            built = true;
        }

        private void readStartStack() {
            for (int i = 0; i < plan.start.length && i < MOST_START; i++) {
                int end = HEADS + i;
                int symbol = plan.start.symbols[i];
                if (i == 0) {
                    reads[end][headOf(plan.startState, symbol)] = 0;
                    keepLeast(plan.startState, symbol, end, 0);
                } else {
                    readOnFrom(end - 1, symbol);
                    keepLeast(MOST_STATES + end - 1, symbol, end, 0);
                }
                addArcsTo(end);
            }
        }

        /** A state that has come to an end of the start stack by an arc with the label 0 reads on there. */
        private void readOnFrom(int end, int symbol) {
            for (int p = 0; p < plan.states; p++) {
                int weight = weightAt(p, 0, end);
                if (weight != NONE) {
                    reads[end + 1][headOf(p, symbol)] = costOfWeight(weight);
                }
            }
        }

        private void readFromHead(int head) {
            reads[head][head] = 0;
            keepLeast(head / MOST_SYMBOLS, head % MOST_SYMBOLS + 1, head, 0);
            addArcsTo(head);
        }

        private void addArcsTo(int end) {
            long[] row = reads[end];
            summary.spread(row);
            for (int r = 0; r < plan.count; r++) {
                if (row[plan.head[r]] < NO_COST) {
                    addArcsBy(r, end, row[plan.head[r]] + plan.cost[r]);
                }
            }
        }

        private void addArcsBy(int r, int end, long cost) {
            int next = plan.next[r];
            if (plan.size[r] == 0) {
                keepLeast(plan.state[r], 0, end, cost);
            } else if (plan.size[r] == 1) {
                keepLeast(plan.state[r], next % MOST_SYMBOLS + 1, end, cost);
            } else {
                openHead(next);
                keepLeast(MOST_STATES + next, plan.below[r], end, cost);
            }
        }

        private void openHead(int head) {
            if (!open[head] && openCount < HEADS) {
                open[head] = true;
                opened[openCount] = head;
                openCount++;
            }
        }

        private void keepLeast(int source, int label, int end, long cost) {
            int index = (source * LABELS + label) * ENDS + end;
            int weight = weightOf(cost);
            if (cost < NO_COST && (weights[index] == NONE || weight < weights[index])) {
                weights[index] = weight;
            }
        }

        int weightAt(int source, int label, int end) {
            return weights[(source * LABELS + label) * ENDS + end];
        }

        /** Sources and ends are numbered in the order of their nodes, so this is the order of arcs. */
        private void listArcs() {
            count = 0;
            int index = 0;
            for (int source = 0; source < SOURCES; source++) {
                for (int label = 0; label < LABELS; label++) {
                    for (int end = 0; end < ENDS; end++) {
                        if (weights[index] != NONE && count < MOST_ARCS) {
                            sources[count] = source;
                            labels[count] = label;
                            ends[count] = end;
                            count++;
                        }
                        index++;
                    }
                }
            }
        }

        int part(int k, int what) {
            switch (what) {
                case 0:
                    return nodeOf(sources[k]);
                case 1:
                    return labels[k];
                case 2:
                    return nodeOf(MOST_STATES + ends[k]);
                default:
                    return weightOfArc(k);
            }
        }

        private int weightOfArc(int k) {
            return weightAt(sources[k], labels[k], ends[k]);
        }

        private long costOverArc(int k) {
            return costOfWeight(weightOfArc(k)) + 1 + home[ends[k]];
        }

        private void findWaysHome() {
            Arrays.fill(home, NO_COST);
            int last = HEADS + plan.start.length - 1;
            if (last >= HEADS && last < ENDS) {
                home[last] = 0;
            }
            boolean changed = true;
            for (int round = 0; changed && round <= ENDS; round++) {
                changed = false;
                for (int k = 0; k < count; k++) {
                    int from = sources[k] - MOST_STATES;
                    if (from >= 0 && lower(home, from, costOverArc(k))) {
                        changed = true;
                    }
                }
            }
        }

        private long costThrough(int end, int head) {
            long read = reads[end][head];
            return read >= NO_COST ? NO_COST : costOfWeight(weightOf(read)) + 1 + home[end];
        }

        /** The least distance with this head, and the fewest symbols of a stack with it. */
        long costOfHead(int head) {
            long least = NO_COST;
            for (int e = 0; e < ENDS; e++) {
                least = Math.min(least, costThrough(e, head));
            }
            return least;
        }

        int leastStack(int head, int symbol) {
            long cost = costOfHead(head);
            if (cost >= NO_COST || countOf(cost) > MOST_STACK) {
                return NONE;
            }
            int reached = 0;
            for (int e = 0; e < ENDS; e++) {
                if (costThrough(e, head) == cost) {
                    reached |= 1 << e;
                }
            }
            int stack = symbol;
            for (int k = 1; k < countOf(cost); k++) {
                int label = leastLabel(reached);
                reached = endsAfter(reached, label);
                stack = stack * 10 + label;
            }
            return stack;
        }

        /** Tells whether the arc leads from one of these ends on a best way to the final one. */
        private boolean isBestFrom(int reached, int k) {
            int from = sources[k] - MOST_STATES;
            return from >= 0 && (reached >> from & 1) != 0 && costOverArc(k) == home[from];
        }

        private int leastLabel(int reached) {
            int least = LABELS;
            for (int k = 0; k < count; k++) {
                if (labels[k] < least && isBestFrom(reached, k)) {
                    least = labels[k];
                }
            }
            return least;
        }

        private int endsAfter(int reached, int label) {
            int after = 0;
            for (int k = 0; k < count; k++) {
                if (labels[k] == label && isBestFrom(reached, k)) {
                    after |= 1 << ends[k];
                }
            }
            return after;
        }
    }
}
