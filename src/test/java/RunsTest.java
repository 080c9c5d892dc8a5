/** Promises 10 to 13: distances, steps, witnesses and means. */
final class RunsTest {
    private static final int BAD_NAME = -1;
    private static final int BAD_VALUE = -2;
    private static final int NONE = -6;
    private static final int LEAST = Integer.MIN_VALUE;
    private static final int MOST = Integer.MAX_VALUE;

    private static final Checks CHECKS = new Checks();

    private RunsTest() {
    }

    public static void main(String[] args) {
        startConfiguration();
        ordinary();
        fewestRulesFirst();
        smallestSequenceThen();
        longStacks();
        badNames();
        badValues();
        meansAreFloats();
        answersFollowChanges();
        CHECKS.end();
    }

    private static void witnessIs(StackLab lab, int p, int word, int... rules) {
        String to = "(" + p + ", " + word;
        CHECKS.due("steps" + to + ")", lab.steps(p, word), rules.length);
        for (int k = 0; k < rules.length; k++) {
            CHECKS.due("witness" + to + ", " + k + ", 0)", lab.witness(p, word, k, 0), rules[k]);
        }
        for (int what = 0; what < 4; what++) {
            CHECKS.due("witness" + to + ", at its end)", lab.witness(p, word, rules.length, what), NONE);
            CHECKS.due("witness" + to + ", 300, " + what + ")", lab.witness(p, word, 300, what), NONE);
        }
    }

    private static void startConfiguration() {
        StackLab lab = new StackLab();
        lab.setStart(1, 3123);
        lab.addRule(1, 3, 1, 3, 1);
        CHECKS.due("distance(1, 3123)", lab.distance(1, 3123), 0);
        CHECKS.due("mean(1, 3123)", lab.mean(1, 3123), 0.0);
        witnessIs(lab, 1, 3123);
        CHECKS.due("distance(1, 123)", lab.distance(1, 123), NONE);
        CHECKS.due("steps(1, 123)", lab.steps(1, 123), NONE);
        CHECKS.due("mean(1, 123)", lab.mean(1, 123), NONE);
        CHECKS.due("witness(1, 123, 0, 0)", lab.witness(1, 123, 0, 0), NONE);
    }

    private static void ordinary() {
        StackLab lab = new StackLab();
        lab.addRule(0, 1, 0, 21, 2);
        lab.addRule(0, 2, 1, 0, 3);
        lab.addRule(1, 1, 0, 3, 1);
        lab.addRule(0, 3, 1, 0, 7);
        lab.setStart(0, 13);
        CHECKS.due("distance(0, 213)", lab.distance(0, 213), 2);
        CHECKS.due("distance(1, 13)", lab.distance(1, 13), 5);
        CHECKS.due("distance(0, 33)", lab.distance(0, 33), 6);
        CHECKS.due("distance(1, 3)", lab.distance(1, 3), 13);
        CHECKS.due("distance(1, 0)", lab.distance(1, 0), NONE);
        CHECKS.due("distance(0, 21)", lab.distance(0, 21), NONE);
        witnessIs(lab, 1, 3, 0, 1, 2, 3);
        int[][] before = {{0, 1, 2}, {0, 2, 3}, {1, 1, 2}, {0, 3, 2}};
        for (int k = 0; k < 4; k++) {
            for (int what = 1; what <= 3; what++) {
                CHECKS.due("witness(1, 3, " + k + ", " + what + ")", lab.witness(1, 3, k, what),
                        before[k][what - 1]);
            }
        }
        CHECKS.due("mean(1, 3)", lab.mean(1, 3), 3.25);
    }

    /** Two runs with the weight 5: one rule, or two with smaller numbers. */
    private static void fewestRulesFirst() {
        StackLab lab = new StackLab();
        lab.addRule(0, 1, 0, 21, 2);
        lab.addRule(0, 2, 1, 0, 3);
        lab.addRule(0, 1, 1, 1, 5);
        witnessIs(lab, 1, 1, 2);
        lab.setWeight(2, 6);
        witnessIs(lab, 1, 1, 0, 1);
        CHECKS.due("distance(1, 1)", lab.distance(1, 1), 5);
    }

    /** The first rule decides, though the run with the greater first one ends with a smaller one. */
    private static void smallestSequenceThen() {
        StackLab lab = new StackLab();
        lab.addRule(0, 2, 1, 1, 2);
        lab.addRule(0, 3, 1, 1, 1);
        lab.addRule(0, 1, 0, 3, 2);
        lab.addRule(0, 1, 0, 2, 1);
        witnessIs(lab, 1, 1, 2, 1);
        lab.setWeight(1, 2);
        witnessIs(lab, 1, 1, 3, 0);
        lab.undo();
        witnessIs(lab, 1, 1, 2, 1);
    }

    private static void longStacks() {
        StackLab lab = new StackLab();
        lab.addRule(0, 1, 0, 12, 1);
        CHECKS.due("distance(0, 122222)", lab.distance(0, 122222), 5);
        CHECKS.due("steps(0, 122222)", lab.steps(0, 122222), 5);
        CHECKS.due("witness(0, 122222, 4, 3)", lab.witness(0, 122222, 4, 3), 5);
        CHECKS.due("distance(0, 1222222)", lab.distance(0, 1222222), BAD_NAME);
        CHECKS.due("steps(0, 1222222)", lab.steps(0, 1222222), BAD_NAME);
        CHECKS.due("mean(0, 1222222)", lab.mean(0, 1222222), BAD_NAME);
        CHECKS.due("witness(0, 1222222, 0, 0)", lab.witness(0, 1222222, 0, 0), BAD_NAME);
    }

    private static void badNames() {
        StackLab lab = new StackLab();
        lab.addRule(0, 1, 0, 12, 1);
        int[][] wrong = {{-1, 1}, {2, 1}, {0, 4}, {0, -1}, {0, 10}, {0, 101}, {0, 14}, {0, 1111111}, {0, MOST},
            {0, LEAST}, {MOST, 1}, {LEAST, 1}, {0, 1000000}, {0, 2111111111}};
        for (int[] call : wrong) {
            String to = "(" + call[0] + ", " + call[1] + ")";
            CHECKS.due("distance" + to, lab.distance(call[0], call[1]), BAD_NAME);
            CHECKS.due("steps" + to, lab.steps(call[0], call[1]), BAD_NAME);
            CHECKS.due("mean" + to, lab.mean(call[0], call[1]), BAD_NAME);
            CHECKS.due("witness" + to, lab.witness(call[0], call[1], 0, 0), BAD_NAME);
            CHECKS.due("witness with bad values " + to, lab.witness(call[0], call[1], 301, 4), BAD_NAME);
        }
    }

    private static void badValues() {
        StackLab lab = new StackLab();
        lab.addRule(0, 1, 0, 12, 1);
        for (int word : new int[] {12, 2}) {
            for (int k : new int[] {-1, 301, LEAST, MOST}) {
                CHECKS.due("witness(0, " + word + ", " + k + ", 0)", lab.witness(0, word, k, 0), BAD_VALUE);
            }
            for (int what : new int[] {-1, 4, LEAST, MOST}) {
                CHECKS.due("witness(0, " + word + ", 0, " + what + ")", lab.witness(0, word, 0, what), BAD_VALUE);
            }
        }
        CHECKS.due("witness(0, 12, 0, 0)", lab.witness(0, 12, 0, 0), 0);
        CHECKS.due("witness(0, 2, 0, 0)", lab.witness(0, 2, 0, 0), NONE);
    }

    private static void meansAreFloats() {
        StackLab lab = new StackLab();
        lab.addRule(0, 1, 0, 2, 1);
        lab.addRule(0, 2, 0, 3, 2);
        lab.addRule(0, 3, 0, 0, 4);
        CHECKS.due("mean(0, 0)", lab.mean(0, 0), 7.0f / 3.0f);
        CHECKS.due("mean(0, 3)", lab.mean(0, 3), 1.5);
        CHECKS.due("mean(0, 2)", lab.mean(0, 2), 1.0);
        CHECKS.due("mean(0, 1)", lab.mean(0, 1), 0.0);
    }

    private static void answersFollowChanges() {
        StackLab lab = new StackLab();
        CHECKS.due("distance(0, 0)", lab.distance(0, 0), NONE);
        lab.addRule(0, 1, 0, 0, 8);
        CHECKS.due("distance(0, 0)", lab.distance(0, 0), 8);
        CHECKS.due("witness(0, 0, 0, 3)", lab.witness(0, 0, 0, 3), 1);
        lab.setStart(0, 11);
        CHECKS.due("distance(0, 0)", lab.distance(0, 0), 16);
        CHECKS.due("witness(0, 0, 0, 3)", lab.witness(0, 0, 0, 3), 2);
        CHECKS.due("witness(0, 1, 1, 0)", lab.witness(0, 1, 1, 0), NONE);
        CHECKS.due("witness(0, 0, 1, 0)", lab.witness(0, 0, 1, 0), 0);
        lab.begin(2, 3);
        CHECKS.due("distance(0, 0)", lab.distance(0, 0), NONE);
        lab.undo();
        CHECKS.due("distance(0, 0)", lab.distance(0, 0), 16);
        lab.removeRule(0);
        CHECKS.due("distance(0, 0)", lab.distance(0, 0), NONE);
    }
}
