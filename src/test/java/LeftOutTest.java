/** Promises 22 to 24: rules that are left out or get heavier. */
final class LeftOutTest {
    private static final int BAD_NAME = -1;
    private static final int NONE = -6;

    private static final Checks CHECKS = new Checks();

    private LeftOutTest() {
    }

    public static void main(String[] args) {
        oneWay();
        twoWays();
        twoWaysOfOneWeight();
        startConfiguration();
        tolerancesEndAtTwenty();
        noDistance();
        badNames();
        nothingChanges();
        CHECKS.end();
    }

    private static void withoutIs(StackLab lab, int p, int word, int... want) {
        for (int rule = 0; rule < want.length; rule++) {
            CHECKS.due("distanceWithout(" + rule + ", " + p + ", " + word + ")",
                    lab.distanceWithout(rule, p, word), want[rule]);
        }
    }

    private static void toleranceIs(StackLab lab, int p, int word, int... want) {
        for (int rule = 0; rule < want.length; rule++) {
            CHECKS.due("tolerance(" + rule + ", " + p + ", " + word + ")", lab.tolerance(rule, p, word),
                    want[rule]);
        }
    }

    private static void oneWay() {
        StackLab lab = new StackLab();
        lab.addRule(0, 1, 0, 22, 3);
        lab.addRule(0, 2, 0, 0, 4);
        lab.addRule(0, 3, 0, 0, 5);
        withoutIs(lab, 0, 0, NONE, NONE, 11);
        CHECKS.due("critical(0, 0)", lab.critical(0, 0), 3);
        toleranceIs(lab, 0, 0, 0, 0, 15);
        withoutIs(lab, 0, 22, NONE, 3, 3);
        CHECKS.due("critical(0, 22)", lab.critical(0, 22), 1);
        toleranceIs(lab, 0, 22, 0, 16, 15);
    }

    /** Rule 3 is the heavier way, so it is not missed; without rule 1 it is taken. */
    private static void twoWays() {
        StackLab lab = new StackLab();
        lab.addRule(0, 1, 0, 2, 1);
        lab.addRule(0, 2, 1, 0, 4);
        lab.addRule(0, 2, 0, 3, 2);
        lab.addRule(0, 3, 1, 0, 5);
        CHECKS.due("distance(1, 0)", lab.distance(1, 0), 5);
        withoutIs(lab, 1, 0, NONE, 8, 5, 5);
        CHECKS.due("critical(1, 0)", lab.critical(1, 0), 3);
        toleranceIs(lab, 1, 0, 0, 0, 18, 15);
    }

    /** The witness takes rule 1, but rules 2 and 3 do it with the same weight. */
    private static void twoWaysOfOneWeight() {
        StackLab lab = new StackLab();
        lab.addRule(0, 1, 0, 2, 1);
        lab.addRule(0, 2, 1, 0, 7);
        lab.addRule(0, 2, 0, 3, 2);
        lab.addRule(0, 3, 1, 0, 5);
        CHECKS.due("distance(1, 0)", lab.distance(1, 0), 8);
        CHECKS.due("steps(1, 0)", lab.steps(1, 0), 2);
        withoutIs(lab, 1, 0, NONE, 8, 8, 8);
        CHECKS.due("critical(1, 0)", lab.critical(1, 0), 1);
        toleranceIs(lab, 1, 0, 0, 13, 18, 15);
    }

    private static void startConfiguration() {
        StackLab lab = new StackLab();
        lab.addRule(0, 1, 0, 1, 1);
        lab.addRule(0, 1, 0, 0, 20);
        withoutIs(lab, 0, 1, 0, 0);
        CHECKS.due("critical(0, 1)", lab.critical(0, 1), 0);
        toleranceIs(lab, 0, 1, 19, 0);
    }

    private static void tolerancesEndAtTwenty() {
        StackLab lab = new StackLab();
        lab.addRule(1, 1, 0, 0, 1);
        for (int weight = 1; weight <= 20; weight++) {
            lab.setWeight(0, weight);
            CHECKS.due("tolerance with the weight " + weight, lab.tolerance(0, 0, 1), 20 - weight);
        }
    }

    private static void noDistance() {
        StackLab lab = new StackLab();
        lab.addRule(0, 1, 0, 2, 1);
        withoutIs(lab, 1, 2, NONE);
        CHECKS.due("critical(1, 2)", lab.critical(1, 2), NONE);
        toleranceIs(lab, 1, 2, NONE);
    }

    private static void badNames() {
        StackLab lab = new StackLab();
        lab.addRule(0, 1, 0, 2, 1);
        int[][] wrong = {{-1, 0, 1}, {1, 0, 1}, {20, 0, 1}, {0, -1, 1}, {0, 2, 1}, {0, 0, 4}, {0, 0, -1},
            {0, 0, 10}, {0, 0, 1111111}, {Integer.MIN_VALUE, 0, 1}, {Integer.MAX_VALUE, 0, 1},
            {0, Integer.MAX_VALUE, 1}, {0, Integer.MIN_VALUE, 1}, {0, 0, Integer.MAX_VALUE},
            {0, 0, Integer.MIN_VALUE}};
        for (int[] call : wrong) {
            String with = "(" + call[0] + ", " + call[1] + ", " + call[2] + ")";
            CHECKS.due("distanceWithout" + with, lab.distanceWithout(call[0], call[1], call[2]), BAD_NAME);
            CHECKS.due("tolerance" + with, lab.tolerance(call[0], call[1], call[2]), BAD_NAME);
            if (call[0] == 0) {
                CHECKS.due("critical" + with, lab.critical(call[1], call[2]), BAD_NAME);
            }
        }
        CHECKS.due("distanceWithout(0, 0, 111111)", lab.distanceWithout(0, 0, 111111), NONE);
        CHECKS.due("critical(0, 111111)", lab.critical(0, 111111), NONE);
        CHECKS.due("tolerance(0, 0, 111111)", lab.tolerance(0, 0, 111111), NONE);
    }

    private static void nothingChanges() {
        StackLab lab = new StackLab();
        lab.addRule(0, 1, 0, 22, 3);
        lab.addRule(0, 2, 0, 0, 4);
        CHECKS.due("witness(0, 0, 2, 0)", lab.witness(0, 0, 2, 0), 1);
        CHECKS.due("distanceWithout(1, 0, 0)", lab.distanceWithout(1, 0, 0), NONE);
        CHECKS.due("critical(0, 22)", lab.critical(0, 22), 1);
        CHECKS.due("tolerance(1, 0, 0)", lab.tolerance(1, 0, 0), 0);
        CHECKS.due("distance(0, 0)", lab.distance(0, 0), 11);
        CHECKS.due("witness(0, 0, 2, 0)", lab.witness(0, 0, 2, 0), 1);
        CHECKS.due("told(2)", lab.told(2), 2);
        CHECKS.due("rule(1, 4)", lab.rule(1, 4), 4);
        CHECKS.due("price(0, 1, 0)", lab.price(0, 1, 0), 11);
        CHECKS.due("undo()", lab.undo(), 1);
    }
}
