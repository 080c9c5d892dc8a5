import java.util.Random;

/** Systems whose lightest runs are very long, with weights around the limit of 1000000. */
final class HeavyTest {
    /** p, X, q and word of 20 rules each, found by a search for systems with great prices. */
    private static final int[][][] SYSTEMS = {
        {{2, 3, 1, 0}, {1, 1, 3, 32}, {0, 1, 2, 0}, {0, 5, 3, 0}, {0, 2, 3, 31}, {3, 4, 3, 22}, {1, 5, 1, 14},
            {2, 5, 2, 11}, {2, 1, 0, 0}, {2, 4, 0, 33}, {3, 2, 2, 45}, {2, 4, 2, 22}, {0, 3, 1, 24}, {3, 2, 1, 12},
            {3, 1, 3, 52}, {3, 5, 3, 42}, {0, 4, 3, 12}, {1, 2, 1, 54}, {3, 3, 0, 41}, {2, 2, 2, 55}},
        {{1, 3, 3, 55}, {3, 3, 3, 23}, {2, 2, 3, 33}, {1, 1, 1, 55}, {1, 2, 1, 44}, {0, 3, 0, 51}, {3, 5, 0, 31},
            {0, 2, 1, 22}, {2, 3, 2, 55}, {3, 4, 1, 0}, {1, 5, 0, 22}, {2, 5, 2, 0}, {1, 4, 0, 44}, {2, 1, 3, 0},
            {2, 1, 0, 53}, {1, 2, 1, 32}, {0, 4, 1, 12}, {3, 5, 2, 33}, {3, 2, 1, 35}, {0, 5, 0, 41}},
        {{2, 4, 1, 42}, {2, 2, 1, 0}, {1, 2, 3, 22}, {2, 3, 2, 44}, {0, 3, 3, 33}, {1, 5, 0, 42}, {1, 3, 1, 15},
            {1, 4, 2, 0}, {3, 5, 0, 53}, {3, 2, 2, 54}, {2, 5, 3, 54}, {0, 5, 0, 33}, {3, 1, 0, 0}, {0, 1, 0, 25},
            {0, 4, 0, 22}, {2, 1, 3, 0}, {0, 2, 3, 55}, {3, 3, 2, 33}, {1, 1, 0, 15}, {3, 3, 1, 31}},
        {{2, 2, 3, 24}, {3, 5, 3, 12}, {1, 2, 1, 55}, {3, 5, 0, 33}, {3, 2, 2, 54}, {0, 3, 1, 13}, {0, 2, 2, 0},
            {1, 1, 0, 53}, {0, 4, 3, 43}, {0, 5, 1, 53}, {3, 3, 0, 0}, {2, 3, 0, 54}, {0, 1, 3, 53}, {1, 4, 0, 51},
            {3, 4, 3, 51}, {1, 5, 2, 24}, {2, 5, 3, 44}, {3, 1, 1, 25}, {2, 3, 1, 0}, {1, 1, 3, 0}},
        {{1, 4, 2, 44}, {3, 2, 2, 55}, {2, 2, 2, 0}, {1, 4, 1, 11}, {1, 2, 0, 54}, {3, 1, 3, 33}, {3, 3, 3, 55},
            {0, 5, 0, 14}, {1, 1, 1, 21}, {2, 4, 0, 43}, {1, 3, 3, 11}, {2, 5, 2, 22}, {3, 5, 3, 23}, {3, 4, 2, 43},
            {0, 1, 0, 24}, {0, 4, 1, 31}, {2, 1, 1, 0}, {2, 3, 3, 0}, {1, 3, 1, 22}, {0, 2, 1, 44}}};
    private static final int[] HEAVIEST = {20, 1, 3, 20};
    private static final int[] STARTS = {1, 3, 2345, 33, 1321, 4335};

    private static final Checks CHECKS = new Checks("heavy systems");

    private HeavyTest() {
    }

    public static void main(String[] args) {
        Random random = new Random(7);
        for (int number = 0; number < SYSTEMS.length; number++) {
            for (int heaviest : HEAVIEST) {
                Reference system = systemOf(SYSTEMS[number], heaviest, random);
                checkSystem(system, "heavy " + number + " to " + heaviest, random);
            }
        }
        for (int weight = Limit.WEIGHT - 1; weight <= Limit.WEIGHT + 1; weight++) {
            checkSystem(Limit.reference(weight, 45), "the limit, " + weight, random);
            checkSystem(Limit.referenceOfSix(weight), "the limit of six, " + weight, random);
        }
        longWitnessWithTies();
        CHECKS.end();
    }

    /** With weights up to this one. */
    private static Reference systemOf(int[][] rules, int heaviest, Random random) {
        Reference system = new Reference(4, 5, Limit.WEIGHT);
        for (int[] rule : rules) {
            system.rules.add(new int[] {rule[0], rule[1], rule[2], rule[3], 1 + random.nextInt(heaviest)});
        }
        return system;
    }

    private static void checkSystem(Reference system, String name, Random random) {
        checkPrices(system, name);
        for (int start : STARTS) {
            Reference from = system.startingAt(random.nextInt(4), Reference.digits(start));
            new SystemChecks(CHECKS, random, from, name + " from " + start).checkAll();
            checkEmptyStacks(from, name + " from " + start);
        }
    }

    private static void checkPrices(Reference system, String name) {
        StackLab lab = system.makeLab();
        for (int p = 0; p < 4; p++) {
            for (int x = 1; x <= 5; x++) {
                for (int q = 0; q < 4; q++) {
                    CHECKS.due(name + " price(" + p + ", " + x + ", " + q + ")", lab.price(p, x, q),
                            system.wordPrice(p, x, q));
                }
            }
        }
    }

    private static void checkEmptyStacks(Reference system, String name) {
        StackLab lab = system.makeLab();
        for (int q = 0; q < 4; q++) {
            CHECKS.due(name + " distance(" + q + ", 0)", lab.distance(q, 0), system.distance(q, 0));
            CHECKS.due(name + " critical(" + q + ", 0)", lab.critical(q, 0), system.critical(q, 0));
        }
    }

    /** Each 4 can go in two ways with the same weight and as many rules. */
    private static void longWitnessWithTies() {
        Reference system = new Reference(2, 5, Limit.WEIGHT);
        int[][] rules = {{0, 5, 0, 0, 1}, {1, 4, 0, 0, 1}, {0, 1, 0, 22, 3}, {0, 2, 0, 33, 1}, {0, 3, 0, 44, 2},
            {0, 4, 1, 4, 1}, {0, 4, 0, 5, 1}, {0, 4, 0, 0, 3}, {0, 3, 0, 3, 1}};
        for (int[] rule : rules) {
            system.rules.add(rule);
        }
        Reference from = system.startingAt(0, 1, 1, 1, 1);
        StackLab lab = from.makeLab();
        for (Reference.Run run : from.nearestRuns(2000)) {
            if (run.stack.isEmpty()) {
                CHECKS.due("ties: steps(0, 0)", lab.steps(run.state, 0), run.rules.length);
                CHECKS.due("ties: distance(0, 0)", lab.distance(run.state, 0), run.weight);
                for (int k = 0; k < run.rules.length; k++) {
                    CHECKS.due("ties: witness(0, 0, " + k + ", 0)", lab.witness(run.state, 0, k, 0), run.rules[k]);
                }
            }
        }
        CHECKS.due("ties: steps(0, 0)", lab.steps(0, 0), 92);
        CHECKS.due("ties: witness(0, 0, 91, 0)", lab.witness(0, 0, 91, 0), 1);
        CHECKS.due("ties: witness(0, 0, 92, 0)", lab.witness(0, 0, 92, 0), StackLab.NONE);
    }
}
