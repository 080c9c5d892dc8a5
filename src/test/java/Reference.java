import java.util.ArrayList;
import java.util.Arrays;
import java.util.HashMap;
import java.util.List;
import java.util.Map;
import java.util.PriorityQueue;

/**
 * The document's sentences, followed to the letter and without any haste: the machine grows until no
 * arc follows any more, and runs are searched configuration by configuration.
 */
final class Reference {
    static final int NONE = -6;
    static final int NODES = 40;
    static final int FAR = Integer.MAX_VALUE / 4;

    final int states;
    final int symbols;
    final int limit;
    final List<int[]> rules = new ArrayList<>();
    int startState = 0;
    int[] start = {1};

    /** weight[from][label][to], FAR where there is no arc. */
    private int[][][] weight;

    Reference(int states, int symbols, int limit) {
        this.states = states;
        this.symbols = symbols;
        this.limit = limit;
    }

    static int[] digits(int number) {
        if (number == 0) {
            return new int[0];
        }
        String text = Integer.toString(number);
        int[] digits = new int[text.length()];
        for (int k = 0; k < digits.length; k++) {
            digits[k] = text.charAt(k) - '0';
        }
        return digits;
    }

    Reference copy() {
        Reference other = new Reference(states, symbols, limit);
        for (int[] rule : rules) {
            other.rules.add(rule.clone());
        }
        other.startState = startState;
        other.start = start.clone();
        return other;
    }

    Reference startingAt(int p, int... stack) {
        Reference other = copy();
        other.startState = p;
        other.start = stack;
        return other;
    }

    Reference without(int rule) {
        Reference other = copy();
        other.rules.remove(rule);
        return other;
    }

    Reference raised(int rule, int by) {
        Reference other = copy();
        other.rules.get(rule)[4] += by;
        return other;
    }

    /** A new object of the class under test with this system, made by as many calls as rules and two more. */
    StackLab makeLab() {
        StackLab lab = new StackLab();
        lab.begin(states, symbols);
        for (int[] rule : rules) {
            lab.addRule(rule[0], rule[1], rule[2], rule[3], rule[4]);
        }
        lab.setStart(startState, startNumber());
        return lab;
    }

    int startNumber() {
        int number = 0;
        for (int symbol : start) {
            number = number * 10 + symbol;
        }
        return number;
    }

    boolean holds(int[] rule) {
        for (int[] there : rules) {
            if (there[0] == rule[0] && there[1] == rule[1] && there[2] == rule[2] && there[3] == rule[3]) {
                return true;
            }
        }
        return false;
    }

    int finalNode() {
        return 30 + start.length;
    }

    int[][][] machine() {
        if (weight == null) {
            weight = new int[NODES][6][NODES];
            for (int[][] byLabel : weight) {
                for (int[] row : byLabel) {
                    Arrays.fill(row, FAR);
                }
            }
            for (int i = 1; i <= start.length; i++) {
                weight[i == 1 ? startState : 30 + i - 1][start[i - 1]][30 + i] = 0;
            }
            while (grow()) {
                continue;
            }
        }
        return weight;
    }

    private boolean grow() {
        boolean grown = false;
        for (int[] rule : rules) {
            for (int s = 0; s < NODES; s++) {
                int d = reading(rule[0], rule[1], s);
                if (d > limit) {
                    continue;
                }
                int[] word = digits(rule[3]);
                int q = rule[2];
                if (word.length == 0) {
                    grown |= follow(q, 0, s, d + rule[4]);
                } else if (word.length == 1) {
                    grown |= follow(q, word[0], s, d + rule[4]);
                } else {
                    int node = 10 + 5 * q + word[0] - 1;
                    grown |= follow(q, word[0], node, 0);
                    grown |= follow(node, word[1], s, d + rule[4]);
                }
            }
        }
        return grown;
    }

    private boolean follow(int from, int label, int to, int w) {
        if (w > limit || weight[from][label][to] <= w) {
            return false;
        }
        weight[from][label][to] = w;
        return true;
    }

    /** The least weight with which p reads x up to s. */
    private int reading(int p, int x, int s) {
        int least = weight[p][x][s];
        for (int t = 0; t < NODES; t++) {
            if (weight[p][0][t] < FAR && weight[t][x][s] < FAR) {
                least = Math.min(least, weight[p][0][t] + weight[t][x][s]);
            }
        }
        return least;
    }

    private int[] overEmpty(int[] at) {
        int[] after = at.clone();
        for (int n = 0; n < NODES; n++) {
            for (int t = 0; at[n] < FAR && t < NODES; t++) {
                after[t] = Math.min(after[t], at[n] + machine()[n][0][t]);
            }
        }
        return after;
    }

    private int[] over(int[] at, int label) {
        int[] after = new int[NODES];
        Arrays.fill(after, FAR);
        for (int n = 0; n < NODES; n++) {
            for (int t = 0; at[n] < FAR && t < NODES; t++) {
                after[t] = Math.min(after[t], at[n] + machine()[n][label][t]);
            }
        }
        return overEmpty(after);
    }

    private int[] at(int p) {
        int[] at = new int[NODES];
        Arrays.fill(at, FAR);
        at[p] = 0;
        return overEmpty(at);
    }

    int distance(int p, int word) {
        int[] at = at(p);
        for (int symbol : digits(word)) {
            at = over(at, symbol);
        }
        return told(at[finalNode()]);
    }

    private int told(int sum) {
        return sum > limit ? NONE : sum;
    }

    /** The least sum of arcs from each node to the final one, whatever their labels are. */
    private int[] home() {
        int[] home = new int[NODES];
        Arrays.fill(home, FAR);
        home[finalNode()] = 0;
        for (int round = 0; round < NODES; round++) {
            for (int n = 0; n < NODES; n++) {
                for (int label = 0; label < 6; label++) {
                    for (int t = 0; t < NODES; t++) {
                        home[n] = Math.min(home[n], Math.min(FAR, machine()[n][label][t] + home[t]));
                    }
                }
            }
        }
        return home;
    }

    int headDistance(int p, int x) {
        int[] after = over(at(p), x);
        int[] home = home();
        int least = FAR;
        for (int n = 0; n < NODES; n++) {
            least = Math.min(least, after[n] + home[n]);
        }
        return told(least);
    }

    /** Tries all stacks, shorter ones first and those of one length in their order. */
    int nearestStack(int p, int x) {
        int due = headDistance(p, x);
        for (int length = 1; due != NONE && length <= 6; length++) {
            int found = nearest(over(at(p), x), x, length - 1, due);
            if (found != NONE) {
                return found;
            }
        }
        return NONE;
    }

    private int nearest(int[] at, int stack, int more, int due) {
        if (more == 0) {
            return at[finalNode()] == due ? stack : NONE;
        }
        boolean dead = true;
        for (int n = 0; n < NODES; n++) {
            dead &= at[n] > due;
        }
        for (int symbol = 1; !dead && symbol <= symbols; symbol++) {
            int found = nearest(over(at, symbol), stack * 10 + symbol, more - 1, due);
            if (found != NONE) {
                return found;
            }
        }
        return NONE;
    }

    int heads() {
        int heads = 0;
        for (int p = 0; p < states; p++) {
            for (int x = 1; x <= symbols; x++) {
                heads += headDistance(p, x) == NONE ? 0 : 1;
            }
        }
        return heads;
    }

    int wordPrice(int p, int word, int q) {
        if (word == 0) {
            return p == q ? 0 : NONE;
        }
        return startingAt(p, digits(word)).distance(q, 0);
    }

    int critical(int p, int word) {
        int due = distance(p, word);
        if (due == NONE) {
            return NONE;
        }
        int set = 0;
        for (int r = 0; r < rules.size(); r++) {
            set |= without(r).distance(p, word) == due ? 0 : 1 << r;
        }
        return set;
    }

    int tolerance(int rule, int p, int word) {
        int due = distance(p, word);
        int by = 0;
        while (due != NONE && rules.get(rule)[4] + by < 20 && raised(rule, by + 1).distance(p, word) == due) {
            by++;
        }
        return due == NONE ? NONE : by;
    }

    /** The arcs in their order, each with its first node, label, second node and weight. */
    List<int[]> arcs() {
        List<int[]> arcs = new ArrayList<>();
        for (int n = 0; n < NODES; n++) {
            for (int label = 0; label < 6; label++) {
                for (int t = 0; t < NODES; t++) {
                    if (machine()[n][label][t] < FAR) {
                        arcs.add(new int[] {n, label, t, machine()[n][label][t]});
                    }
                }
            }
        }
        return arcs;
    }

    /** A configuration with its best run so far. */
    static final class Run implements Comparable<Run> {
        final int state;
        final String stack;
        final int weight;
        final int[] rules;

        Run(int state, String stack, int weight, int[] rules) {
            this.state = state;
            this.stack = stack;
            this.weight = weight;
            this.rules = rules;
        }

        @Override
        public int compareTo(Run other) {
            if (weight != other.weight) {
                return Integer.compare(weight, other.weight);
            }
            if (rules.length != other.rules.length) {
                return Integer.compare(rules.length, other.rules.length);
            }
            return Arrays.compare(rules, other.rules);
        }

        Run after(int number, int[] rule) {
            int[] more = Arrays.copyOf(rules, rules.length + 1);
            more[rules.length] = number;
            String word = rule[3] == 0 ? "" : Integer.toString(rule[3]);
            return new Run(rule[2], word + stack.substring(1), weight + rule[4], more);
        }

        int number() {
            return stack.isEmpty() ? 0 : Integer.parseInt(stack);
        }
    }

    /** The witnesses of the nearest configurations, in the order of runs, at most this many. */
    List<Run> nearestRuns(int most) {
        StringBuilder stack = new StringBuilder();
        for (int symbol : start) {
            stack.append(symbol);
        }
        PriorityQueue<Run> open = new PriorityQueue<>();
        open.add(new Run(startState, stack.toString(), 0, new int[0]));
        Map<String, Run> done = new HashMap<>();
        List<Run> found = new ArrayList<>();
        while (!open.isEmpty() && found.size() < most) {
            Run run = open.poll();
            if (run.weight > limit || done.putIfAbsent(run.state + ":" + run.stack, run) != null) {
                continue;
            }
            found.add(run);
            for (int r = 0; r < rules.size(); r++) {
                int[] rule = rules.get(r);
                if (rule[0] == run.state && !run.stack.isEmpty() && run.stack.charAt(0) - '0' == rule[1]) {
                    open.add(run.after(r, rule));
                }
            }
        }
        return found;
    }
}
