import java.util.List;
import java.util.Random;

/**
 * Random systems, each answer against the Reference. With an argument, the class under test has been
 * compiled with this limit in place of 1000000.
 */
final class RandomTest {
    private static final int SYSTEMS = 700;
    private static final int CALLS = 512;

    private final Checks checks = new Checks();
    private final Random random = new Random(20261118);
    private final int limit;
    private StackLab lab;
    private int calls;
    private Reference due;

    private RandomTest(int limit) {
        this.limit = limit;
    }

    public static void main(String[] args) {
        RandomTest test = new RandomTest(args.length == 0 ? 1000000 : Integer.parseInt(args[0]));
        for (int k = 0; k < SYSTEMS; k++) {
            test.checkSystem(k);
        }
        test.checks.end();
    }

    private int pick(int least, int most) {
        return least + random.nextInt(most - least + 1);
    }

    private int pickWord(int least, int most) {
        int word = 0;
        for (int k = pick(least, most); k > 0; k--) {
            word = word * 10 + pick(1, due.symbols);
        }
        return word;
    }

    /** A new object after every 512 calls, since nothing is promised beyond. */
    private StackLab lab() {
        calls++;
        if (calls > CALLS) {
            makeLab();
            calls++;
        }
        return lab;
    }

    private void makeLab() {
        lab = new StackLab();
        lab.begin(due.states, due.symbols);
        for (int[] rule : due.rules) {
            lab.addRule(rule[0], rule[1], rule[2], rule[3], rule[4]);
        }
        int word = 0;
        for (int symbol : due.start) {
            word = word * 10 + symbol;
        }
        lab.setStart(due.startState, word);
        calls = due.rules.size() + 2;
    }

    private void makeSystem(int k) {
        due = new Reference(pick(1, 4), pick(1, 5), limit);
        int heaviest = k % 4 == 0 ? 20 : k % 4 == 1 ? 1 : 3;
        int pushes = pick(0, 2);
        for (int tries = pick(0, 22); tries > 0 && due.rules.size() < 20; tries--) {
            int[] rule = {pick(0, due.states - 1), pick(1, due.symbols), pick(0, due.states - 1),
                pickWord(0, random.nextInt(3) < pushes ? 2 : 1), pick(1, heaviest)};
            if (due.rules.stream().noneMatch(r -> isAlike(r, rule))) {
                due.rules.add(rule);
            }
        }
        due.startState = pick(0, due.states - 1);
        due.start = Reference.digits(pickWord(1, k % 3 == 0 ? 4 : 2));
        makeLab();
    }

    private static boolean isAlike(int[] a, int[] b) {
        return a[0] == b[0] && a[1] == b[1] && a[2] == b[2] && a[3] == b[3];
    }

    private void checkSystem(int k) {
        makeSystem(k);
        checkMachine(k);
        checkHeads(k);
        checkPrices(k);
        checkRuns(k);
        for (int tries = 0; tries < 12; tries++) {
            checkDistance(k, pick(0, due.states - 1), pickWord(0, 6));
        }
    }

    private void checkMachine(int k) {
        List<int[]> arcs = due.arcs();
        checks.due(k + " arcs()", lab().arcs(), arcs.size());
        for (int tries = 0; tries < 40; tries++) {
            int index = pick(0, arcs.size());
            int what = pick(0, 3);
            int want = index < arcs.size() ? arcs.get(index)[what] : Reference.NONE;
            checks.due(k + " arc(" + index + ", " + what + ")", lab().arc(index, what), want);
        }
        for (int tries = 0; tries < 40; tries++) {
            int[] arc = arcs.get(pick(0, arcs.size() - 1));
            int to = tries % 2 == 0 ? arc[2] : pick(0, 34);
            int weight = due.machine()[arc[0]][arc[1]][to];
            checks.due(k + " arcWeight(" + arc[0] + ", " + arc[1] + ", " + to + ")",
                    lab().arcWeight(arc[0], arc[1], to), weight < Reference.FAR ? weight : Reference.NONE);
        }
    }

    private void checkHeads(int k) {
        checks.due(k + " heads()", lab().heads(), due.heads());
        for (int p = 0; p < due.states; p++) {
            for (int x = 1; x <= due.symbols; x++) {
                String head = "(" + p + ", " + x + ")";
                checks.due(k + " headDistance" + head, lab().headDistance(p, x), due.headDistance(p, x));
                checks.due(k + " nearestStack" + head, lab().nearestStack(p, x), due.nearestStack(p, x));
            }
        }
    }

    private void checkPrices(int k) {
        for (int tries = 0; tries < 12; tries++) {
            int p = pick(0, due.states - 1);
            int q = pick(0, due.states - 1);
            int x = pick(1, due.symbols);
            int word = pickWord(0, 6);
            checks.due(k + " price(" + p + ", " + x + ", " + q + ")", lab().price(p, x, q),
                    due.wordPrice(p, x, q));
            checks.due(k + " wordPrice(" + p + ", " + word + ", " + q + ")", lab().wordPrice(p, word, q),
                    due.wordPrice(p, word, q));
        }
    }

    private void checkRuns(int k) {
        List<Reference.Run> runs = due.nearestRuns(400);
        for (int tries = 0; tries < 25; tries++) {
            Reference.Run run = runs.get(pick(0, runs.size() - 1));
            if (run.stack.length() > 6) {
                continue;
            }
            int word = run.number();
            checkDistance(k, run.state, word);
            String to = "(" + run.state + ", " + word + ")";
            checks.due(k + " distance" + to, lab().distance(run.state, word), run.weight);
            checks.due(k + " steps" + to, lab().steps(run.state, word), run.rules.length);
            float mean = run.rules.length == 0 ? 0.0f : (float) run.weight / (float) run.rules.length;
            checks.due(k + " mean" + to, lab().mean(run.state, word), mean);
            checkWitness(k, run, word);
        }
    }

    private void checkWitness(int k, Reference.Run run, int word) {
        Reference.Run before = due.nearestRuns(1).get(0);
        for (int at = 0; at <= run.rules.length; at++) {
            boolean over = at == run.rules.length;
            int[] want = new int[4];
            for (int what = 0; what < 4; what++) {
                want[what] = Reference.NONE;
            }
            if (!over) {
                want[0] = run.rules[at];
                want[1] = before.state;
                want[2] = before.stack.charAt(0) - '0';
                want[3] = before.stack.length();
                before = before.after(run.rules[at], due.rules.get(run.rules[at]));
            }
            int what = pick(0, 3);
            checks.due(k + " witness(" + run.state + ", " + word + ", " + at + ", 0)",
                    lab().witness(run.state, word, at, 0), want[0]);
            checks.due(k + " witness(" + run.state + ", " + word + ", " + at + ", " + what + ")",
                    lab().witness(run.state, word, at, what), want[what]);
        }
    }

    private void checkDistance(int k, int p, int word) {
        String to = "(" + p + ", " + word + ")";
        checks.due(k + " distance" + to, lab().distance(p, word), due.distance(p, word));
        if (random.nextInt(4) > 0 || due.rules.isEmpty()) {
            return;
        }
        checks.due(k + " critical" + to, lab().critical(p, word), due.critical(p, word));
        int rule = pick(0, due.rules.size() - 1);
        checks.due(k + " distanceWithout(" + rule + ") of " + to, lab().distanceWithout(rule, p, word),
                due.without(rule).distance(p, word));
        checks.due(k + " tolerance(" + rule + ") of " + to, lab().tolerance(rule, p, word),
                due.tolerance(rule, p, word));
    }
}
