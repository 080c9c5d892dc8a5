import java.util.List;
import java.util.Random;

/** Holds what an object of StackLab answers of one system against what the Reference answers. */
final class SystemChecks {
    private static final int CALLS = 512;

    private final Checks checks;
    private final Random random;
    private final Reference due;
    private final String name;
    private StackLab lab;
    private int calls;

    SystemChecks(Checks checks, Random random, Reference due, String name) {
        this.checks = checks;
        this.random = random;
        this.due = due;
        this.name = name;
        makeLab();
    }

    void checkAll() {
        checkMachine();
        checkHeads();
        checkPrices();
        checkRuns();
        for (int tries = 0; tries < 12; tries++) {
            checkDistance(pick(0, due.states - 1), pickWord(6));
        }
    }

    private int pick(int least, int most) {
        return least + random.nextInt(most - least + 1);
    }

    private int pickWord(int most) {
        int word = 0;
        for (int k = pick(0, most); k > 0; k--) {
            word = word * 10 + pick(1, due.symbols);
        }
        return word;
    }

    /** A new object after every 512 calls, since nothing is promised beyond. */
    private StackLab lab() {
        calls++;
        if (calls > CALLS) {
            makeLab();
            calls++;
        }
        return lab;
    }

    private void makeLab() {
        lab = due.makeLab();
        calls = due.rules.size() + 2;
    }

    private void checkMachine() {
        List<int[]> arcs = due.arcs();
        checks.due(name + " arcs()", lab().arcs(), arcs.size());
        for (int tries = 0; tries < 40; tries++) {
            int index = pick(0, arcs.size());
            int what = pick(0, 3);
            int want = index < arcs.size() ? arcs.get(index)[what] : Reference.NONE;
            checks.due(name + " arc(" + index + ", " + what + ")", lab().arc(index, what), want);
        }
        for (int tries = 0; tries < 40; tries++) {
            int[] arc = arcs.get(pick(0, arcs.size() - 1));
            int to = tries % 2 == 0 ? arc[2] : pick(0, 34);
            int weight = due.machine()[arc[0]][arc[1]][to];
            checks.due(name + " arcWeight(" + arc[0] + ", " + arc[1] + ", " + to + ")",
                    lab().arcWeight(arc[0], arc[1], to), weight < Reference.FAR ? weight : Reference.NONE);
        }
    }

    private void checkHeads() {
        checks.due(name + " heads()", lab().heads(), due.heads());
        for (int p = 0; p < due.states; p++) {
            for (int x = 1; x <= due.symbols; x++) {
                String head = "(" + p + ", " + x + ")";
                checks.due(name + " headDistance" + head, lab().headDistance(p, x), due.headDistance(p, x));
                checks.due(name + " nearestStack" + head, lab().nearestStack(p, x), due.nearestStack(p, x));
            }
        }
    }

    private void checkPrices() {
        for (int tries = 0; tries < 12; tries++) {
            int p = pick(0, due.states - 1);
            int q = pick(0, due.states - 1);
            int x = pick(1, due.symbols);
            int word = pickWord(6);
            checks.due(name + " price(" + p + ", " + x + ", " + q + ")", lab().price(p, x, q),
                    due.wordPrice(p, x, q));
            checks.due(name + " wordPrice(" + p + ", " + word + ", " + q + ")", lab().wordPrice(p, word, q),
                    due.wordPrice(p, word, q));
        }
    }

    private void checkRuns() {
        List<Reference.Run> runs = due.nearestRuns(400);
        for (int tries = 0; tries < 25; tries++) {
            Reference.Run run = runs.get(pick(0, runs.size() - 1));
            if (run.stack.length() > 6) {
                continue;
            }
            int word = run.number();
            checkDistance(run.state, word);
            String to = "(" + run.state + ", " + word + ")";
            checks.due(name + " distance" + to, lab().distance(run.state, word), run.weight);
            checks.due(name + " steps" + to, lab().steps(run.state, word), run.rules.length);
            float mean = run.rules.length == 0 ? 0.0f : (float) run.weight / (float) run.rules.length;
            checks.due(name + " mean" + to, lab().mean(run.state, word), mean);
            checkWitness(run, word);
        }
    }

    private void checkWitness(Reference.Run run, int word) {
        Reference.Run before = due.nearestRuns(1).get(0);
        for (int at = 0; at <= run.rules.length; at++) {
            boolean over = at == run.rules.length;
            int[] want = new int[4];
            for (int what = 0; what < 4; what++) {
                want[what] = Reference.NONE;
            }
            if (!over) {
                want[0] = run.rules[at];
                want[1] = before.state;
                want[2] = before.stack.charAt(0) - '0';
                want[3] = before.stack.length();
                before = before.after(run.rules[at], due.rules.get(run.rules[at]));
            }
            int what = pick(0, 3);
            checks.due(name + " witness(" + run.state + ", " + word + ", " + at + ", 0)",
                    lab().witness(run.state, word, at, 0), want[0]);
            checks.due(name + " witness(" + run.state + ", " + word + ", " + at + ", " + what + ")",
                    lab().witness(run.state, word, at, what), want[what]);
        }
    }

    private void checkDistance(int p, int word) {
        String to = "(" + p + ", " + word + ")";
        checks.due(name + " distance" + to, lab().distance(p, word), due.distance(p, word));
        if (random.nextInt(4) > 0 || due.rules.isEmpty()) {
            return;
        }
        checks.due(name + " critical" + to, lab().critical(p, word), due.critical(p, word));
        int rule = pick(0, due.rules.size() - 1);
        checks.due(name + " distanceWithout(" + rule + ") of " + to, lab().distanceWithout(rule, p, word),
                due.without(rule).distance(p, word));
        checks.due(name + " tolerance(" + rule + ") of " + to, lab().tolerance(rule, p, word),
                due.tolerance(rule, p, word));
    }
}
