import java.util.Random;

/** Systems whose lightest runs are very long: weights up to the limit of 1000000, and above it. */
final class HeavyTest {
    private static final int NONE = -6;
    private static final int LIMIT = 1000000;

    /** Found by a search for systems with great prices; all weights are 20. */
    private static final int[][] ONE = {{2, 3, 1, 0}, {1, 1, 3, 32}, {0, 1, 2, 0}, {0, 5, 3, 0}, {0, 2, 3, 31},
        {3, 4, 3, 22}, {1, 5, 1, 14}, {2, 5, 2, 11}, {2, 1, 0, 0}, {2, 4, 0, 33}, {3, 2, 2, 45}, {2, 4, 2, 22},
        {0, 3, 1, 24}, {3, 2, 1, 12}, {3, 1, 3, 52}, {3, 5, 3, 42}, {0, 4, 3, 12}, {1, 2, 1, 54}, {3, 3, 0, 41},
        {2, 2, 2, 55}};
    private static final int[][] TWO = {{1, 4, 3, 0}, {0, 5, 0, 23}, {3, 5, 0, 34}, {2, 2, 2, 11}, {0, 1, 3, 11},
        {3, 4, 1, 0}, {1, 3, 0, 35}, {1, 2, 1, 54}, {3, 2, 0, 0}, {0, 4, 1, 25}, {0, 1, 1, 12}, {1, 2, 0, 53},
        {0, 2, 3, 13}, {0, 3, 2, 21}, {2, 1, 2, 51}, {3, 1, 0, 33}, {0, 2, 2, 0}, {2, 5, 0, 11}, {1, 5, 3, 44},
        {1, 1, 0, 44}};
    private static final int[][] THREE = {{1, 3, 3, 55}, {3, 3, 3, 23}, {2, 2, 3, 33}, {1, 1, 1, 55},
        {1, 2, 1, 44}, {0, 3, 0, 51}, {3, 5, 0, 31}, {0, 2, 1, 22}, {2, 3, 2, 55}, {3, 4, 1, 0}, {1, 5, 0, 22},
        {2, 5, 2, 0}, {1, 4, 0, 44}, {2, 1, 3, 0}, {2, 1, 0, 53}, {1, 2, 1, 32}, {0, 4, 1, 12}, {3, 5, 2, 33},
        {3, 2, 1, 35}, {0, 5, 0, 41}};

    private static final Checks CHECKS = new Checks();

    private HeavyTest() {
    }

    public static void main(String[] args) {
        Random random = new Random(7);
        int number = 0;
        for (int[][] rules : new int[][][] {ONE, TWO, THREE}) {
            number++;
            Reference system = systemOf(rules);
            checkPrices(system, "heavy " + number);
            for (int start : new int[] {1, 3, 2345, 33, 1321}) {
                Reference from = system.startingAt(start % 4, Reference.digits(start));
                new SystemChecks(CHECKS, random, from, "heavy " + number + " from " + start).checkAll();
                checkEmptyStacks(from, "heavy " + number + " from " + start);
            }
        }
        exactlyTheLimit();
        longWitness();
        longWitnessWithTies();
        CHECKS.end();
    }

    private static Reference systemOf(int[][] rules) {
        Reference system = new Reference(4, 5, LIMIT);
        for (int[] rule : rules) {
            system.rules.add(new int[] {rule[0], rule[1], rule[2], rule[3], 20});
        }
        return system;
    }

    private static void checkPrices(Reference system, String name) {
        StackLab lab = system.makeLab();
        for (int p = 0; p < 4; p++) {
            for (int x = 1; x <= 5; x++) {
                for (int q = 0; q < 4; q++) {
                    CHECKS.due(name + " price(" + p + ", " + x + ", " + q + ")", lab.price(p, x, q),
                            system.wordPrice(p, x, q));
                }
            }
        }
    }

    private static void checkEmptyStacks(Reference system, String name) {
        StackLab lab = system.makeLab();
        for (int q = 0; q < 4; q++) {
            CHECKS.due(name + " distance(" + q + ", 0)", lab.distance(q, 0), system.distance(q, 0));
            CHECKS.due(name + " critical(" + q + ", 0)", lab.critical(q, 0), system.critical(q, 0));
        }
    }

    private static void exactlyTheLimit() {
        int[] weights = {20, 18, 17, 15, 20, 16, 19, 17, 16, 18, 19, 19, 18, 19, 18, 19, 10, 18, 16, 15};
        Reference system = systemOf(TWO);
        for (int r = 0; r < 20; r++) {
            system.rules.get(r)[4] = weights[r];
        }
        StackLab lab = system.makeLab();
        CHECKS.due("price at the limit", lab.wordPrice(0, 223233, 0), LIMIT);
        CHECKS.due("the same by the reference", system.wordPrice(0, 223233, 0), LIMIT);
        lab.setWeight(16, 11);
        CHECKS.due("price above the limit", lab.wordPrice(0, 223233, 0), NONE);
        CHECKS.due("the same by the reference", system.raised(16, 1).wordPrice(0, 223233, 0), NONE);
    }

    /** One rule a head, and each push costs the removal of two heads: 4999 rules to remove the last. */
    private static void longWitness() {
        Reference system = new Reference(4, 5, LIMIT);
        int before = 0;
        int inStateZero = 0;
        for (int x = 1; x <= 5; x++) {
            for (int p = 0; p < 4; p++) {
                int word = before == 0 ? 0 : before % 10 * 10 + inStateZero;
                system.rules.add(new int[] {p, x, before / 10, word, 1 + (x + p) % 20});
                before = p * 10 + x;
                inStateZero = p == 0 ? x : inStateZero;
            }
        }
        StackLab lab = system.startingAt(3, 5).makeLab();
        CHECKS.due("long: steps(0, 0)", lab.steps(0, 0), 4999);
        CHECKS.due("long: distance(0, 0)", lab.distance(0, 0), lab.price(3, 5, 0));
        CHECKS.due("long: mean(0, 0)", lab.mean(0, 0), (float) lab.price(3, 5, 0) / 4999.0f);
        CHECKS.due("long: critical(0, 0)", lab.critical(0, 0), (1 << 20) - 1);
        Reference.Run run = new Reference.Run(3, "5", 0, new int[0]);
        for (int k = 0; k <= 300; k++) {
            int x = run.stack.charAt(0) - '0';
            int rule = (x - 1) * 4 + run.state;
            if (k % 7 == 0 || k > 290) {
                CHECKS.due("long: witness(0, 0, " + k + ", 0)", lab.witness(0, 0, k, 0), rule);
                CHECKS.due("long: witness(0, 0, " + k + ", 1)", lab.witness(0, 0, k, 1), run.state);
                CHECKS.due("long: witness(0, 0, " + k + ", 2)", lab.witness(0, 0, k, 2), x);
                CHECKS.due("long: witness(0, 0, " + k + ", 3)", lab.witness(0, 0, k, 3), run.stack.length());
            }
            run = run.after(rule, system.rules.get(rule));
        }
        CHECKS.due("long: witness(0, 0, 301, 0)", lab.witness(0, 0, 301, 0), -2);
    }

    /** Each 4 can go in two ways with the same weight and as many rules. */
    private static void longWitnessWithTies() {
        Reference system = new Reference(2, 5, LIMIT);
        int[][] rules = {{0, 5, 0, 0, 1}, {1, 4, 0, 0, 1}, {0, 1, 0, 22, 3}, {0, 2, 0, 33, 1}, {0, 3, 0, 44, 2},
            {0, 4, 1, 4, 1}, {0, 4, 0, 5, 1}, {0, 4, 0, 0, 3}, {0, 3, 0, 3, 1}};
        for (int[] rule : rules) {
            system.rules.add(rule);
        }
        Reference from = system.startingAt(0, 1, 1, 1, 1);
        StackLab lab = from.makeLab();
        for (Reference.Run run : from.nearestRuns(2000)) {
            if (run.stack.isEmpty()) {
                CHECKS.due("ties: steps(0, 0)", lab.steps(run.state, 0), run.rules.length);
                CHECKS.due("ties: distance(0, 0)", lab.distance(run.state, 0), run.weight);
                for (int k = 0; k < run.rules.length; k++) {
                    CHECKS.due("ties: witness(0, 0, " + k + ", 0)", lab.witness(run.state, 0, k, 0), run.rules[k]);
                }
            }
        }
        CHECKS.due("ties: steps(0, 0)", lab.steps(0, 0), 92);
        CHECKS.due("ties: witness(0, 0, 91, 0)", lab.witness(0, 0, 91, 0), 1);
        CHECKS.due("ties: witness(0, 0, 92, 0)", lab.witness(0, 0, 92, 0), NONE);
    }
}
