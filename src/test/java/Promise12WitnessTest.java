/** Promise 12: witness. */
final class Promise12WitnessTest {
    private static final Checks CHECKS = new Checks("promise 12, witness");
    private static final Names NAMES = new Names(CHECKS, "witness");
    private static final int LEAST = Integer.MIN_VALUE;
    private static final int MOST = Integer.MAX_VALUE;

    private Promise12WitnessTest() {
    }

    public static void main(String[] args) {
        NAMES.states((lab, p) -> lab.witness(p, 1, 0, 0));
        NAMES.words(0, 6, (lab, word) -> lab.witness(0, word, 0, 0));
        takesIndexesFrom0To300();
        takesWhatFrom0To3();
        reportsTheFirstError();
        isNoneWithoutAWitness();
        isNoneBeyondItsRules();
        tellsWhatWasThereBefore();
        takesTheFewestRules();
        takesTheSmallestSequence();
        reachesStacksOf6Symbols();
        tellsTheIndex300();
        endsAtTheLimit();
        followsChanges();
        CHECKS.end();
    }

    /** The witness has just these rules. */
    private static void witnessIs(StackLab lab, int p, int word, int... rules) {
        String to = "witness(" + p + ", " + word + ", ";
        for (int k = 0; k < rules.length; k++) {
            CHECKS.due(to + k + ", 0)", lab.witness(p, word, k, 0), rules[k]);
        }
        for (int what = 0; what < 4; what++) {
            CHECKS.due(to + rules.length + ", " + what + ")", lab.witness(p, word, rules.length, what),
                    StackLab.NONE);
        }
    }

    /** "k: the index of the rule, 0 to 300". */
    private static void takesIndexesFrom0To300() {
        StackLab lab = Labs.used();
        CHECKS.due("witness(1, 13, 0, 0)", lab.witness(1, 13, 0, 0), 0);
        CHECKS.due("witness(1, 13, 300, 0)", lab.witness(1, 13, 300, 0), StackLab.NONE);
        for (int k : new int[] {-1, 301, LEAST, MOST}) {
            CHECKS.refused("witness(1, 13, " + k + ", 0)", StackLab.BAD_VALUE, Labs::used,
                    l -> l.witness(1, 13, k, 0));
        }
    }

    /** "what: 0 the number of the rule .. 3 the number of symbols". */
    private static void takesWhatFrom0To3() {
        StackLab lab = Labs.used();
        int[] due = {1, 0, 2, 3};
        for (int what = 0; what < 4; what++) {
            CHECKS.due("witness(1, 13, 1, " + what + ")", lab.witness(1, 13, 1, what), due[what]);
        }
        for (int what : new int[] {-1, 4, LEAST, MOST}) {
            CHECKS.refused("witness(1, 13, 0, " + what + ")", StackLab.BAD_VALUE, Labs::used,
                    l -> l.witness(1, 13, 0, what));
        }
    }

    /** "BAD_NAME; BAD_VALUE", and "NONE is reported only if no error applies". */
    private static void reportsTheFirstError() {
        StackLab lab = Labs.used();
        int[][] badNames = {{2, 13}, {-1, 13}, {1, 14}, {1, 10}, {1, -1}, {1, 1111111}};
        int[][] badValues = {{-1, 0}, {301, 0}, {0, -1}, {0, 4}, {301, 4}};
        for (int[] value : badValues) {
            for (int[] name : badNames) {
                CHECKS.due("a bad name with a bad value", lab.witness(name[0], name[1], value[0], value[1]),
                        StackLab.BAD_NAME);
            }
            CHECKS.due("a bad value without a witness", lab.witness(1, 3, value[0], value[1]), StackLab.BAD_VALUE);
            CHECKS.due("a bad value of an empty witness", lab.witness(0, 13, value[0], value[1]),
                    StackLab.BAD_VALUE);
        }
    }

    /** "NONE if there is no witness". */
    private static void isNoneWithoutAWitness() {
        for (int what = 0; what < 4; what++) {
            for (int k : new int[] {0, 1, 300}) {
                CHECKS.due("witness(1, 3, " + k + ", " + what + ")", Labs.used().witness(1, 3, k, what),
                        StackLab.NONE);
            }
        }
    }

    /** "NONE if .. it has not so many rules". */
    private static void isNoneBeyondItsRules() {
        StackLab lab = Labs.used();
        witnessIs(lab, 0, 13);
        witnessIs(lab, 0, 213, 0);
        witnessIs(lab, 1, 13, 0, 1);
        witnessIs(lab, 0, 33, 0, 1, 2);
    }

    /** "tells what it has made of the start configuration", before the first rule and up to the last. */
    private static void tellsWhatWasThereBefore() {
        StackLab lab = new StackLab();
        lab.addRule(0, 1, 0, 21, 2);
        lab.addRule(0, 2, 1, 0, 3);
        lab.addRule(1, 1, 0, 3, 1);
        lab.addRule(0, 3, 1, 0, 7);
        lab.addRule(1, 3, 0, 0, 1);
        lab.setStart(0, 13);
        int[][] due = {{0, 0, 1, 2}, {1, 0, 2, 3}, {2, 1, 1, 2}, {3, 0, 3, 2}, {4, 1, 3, 1}};
        for (int k = 0; k < due.length; k++) {
            for (int what = 0; what < 4; what++) {
                CHECKS.due("witness(0, 0, " + k + ", " + what + ")", lab.witness(0, 0, k, what), due[k][what]);
            }
        }
        witnessIs(lab, 0, 0, 0, 1, 2, 3, 4);
    }

    /** "those with the fewest rules are the best ones", though their numbers are greater. */
    private static void takesTheFewestRules() {
        StackLab lab = new StackLab();
        lab.addRule(0, 1, 0, 21, 2);
        lab.addRule(0, 2, 1, 0, 3);
        lab.addRule(0, 1, 1, 1, 5);
        witnessIs(lab, 1, 1, 2);
        lab.setWeight(2, 6);
        witnessIs(lab, 1, 1, 0, 1);
    }

    /** "of several, the one whose sequence of rule numbers is lexicographically smallest". */
    private static void takesTheSmallestSequence() {
        StackLab lab = new StackLab();
        lab.addRule(0, 2, 1, 1, 2);
        lab.addRule(0, 3, 1, 1, 1);
        lab.addRule(0, 1, 0, 3, 2);
        lab.addRule(0, 1, 0, 2, 1);
        witnessIs(lab, 1, 1, 2, 1);
        lab.setWeight(1, 2);
        witnessIs(lab, 1, 1, 3, 0);
        lab.undo();
        witnessIs(lab, 1, 1, 2, 1);
        lab.begin(1, 4);
        lab.addRule(0, 3, 0, 4, 1);
        lab.addRule(0, 1, 0, 2, 1);
        lab.addRule(0, 2, 0, 3, 1);
        lab.addRule(0, 2, 0, 4, 2);
        witnessIs(lab, 0, 4, 1, 3);
        lab.removeRule(3);
        witnessIs(lab, 0, 4, 1, 2, 0);
    }

    private static void reachesStacksOf6Symbols() {
        StackLab lab = new StackLab();
        lab.addRule(0, 1, 0, 12, 1);
        witnessIs(lab, 0, 122222, 0, 0, 0, 0, 0);
        CHECKS.due("witness(0, 122222, 4, 3)", lab.witness(0, 122222, 4, 3), 5);
        CHECKS.due("witness(0, 1222222, 0, 0)", lab.witness(0, 1222222, 0, 0), StackLab.BAD_NAME);
    }

    /** The index 300 is the last that can be asked for, and tells a rule if there are 301 of them. */
    private static void tellsTheIndex300() {
        for (int steps : new int[] {299, 300, 301, 302, 4999}) {
            Reference system = Chains.withSteps(steps);
            StackLab lab = system.makeLab();
            Reference.Run run = system.nearestRuns(1).get(0);
            for (int k = 0; k <= 300; k++) {
                boolean there = k < steps;
                int symbol = there ? run.stack.charAt(0) - '0' : 0;
                int rule = there ? Chains.ruleFor(run.state, symbol) : StackLab.NONE;
                if (k % 13 == 0 || k > 290) {
                    String call = "witness of " + steps + " rules, " + k + ", ";
                    CHECKS.due(call + "0", lab.witness(0, 0, k, 0), rule);
                    CHECKS.due(call + "1", lab.witness(0, 0, k, 1), there ? run.state : StackLab.NONE);
                    CHECKS.due(call + "2", lab.witness(0, 0, k, 2), there ? symbol : StackLab.NONE);
                    CHECKS.due(call + "3", lab.witness(0, 0, k, 3), there ? run.stack.length() : StackLab.NONE);
                }
                run = there ? run.after(rule, system.rules.get(rule)) : run;
            }
            CHECKS.due("witness(0, 0, 301, 0)", lab.witness(0, 0, 301, 0), StackLab.BAD_VALUE);
        }
    }

    /** "Only runs whose weight is at most 1000000 are considered." */
    private static void endsAtTheLimit() {
        StackLab at = Limit.toBelow(1000000);
        StackLab beyond = Limit.toBelow(1000001);
        for (int k = 0; k < Limit.FIRST.length; k++) {
            CHECKS.due("witness(0, 5, " + k + ", 0)", at.witness(0, 5, k, 0), Limit.FIRST[k]);
            CHECKS.due("witness(0, 5, " + k + ", 0) beyond", beyond.witness(0, 5, k, 0), StackLab.NONE);
        }
        CHECKS.dueTrue("witness(0, 5, 300, 0)", at.witness(0, 5, 300, 0) >= 0);
        CHECKS.due("witness(0, 5, 300, 0) beyond", beyond.witness(0, 5, 300, 0), StackLab.NONE);
    }

    private static void followsChanges() {
        StackLab lab = new StackLab();
        lab.addRule(0, 1, 0, 0, 8);
        CHECKS.due("witness(0, 0, 0, 3)", lab.witness(0, 0, 0, 3), 1);
        lab.setStart(0, 11);
        CHECKS.due("witness(0, 0, 0, 3)", lab.witness(0, 0, 0, 3), 2);
        witnessIs(lab, 0, 1, 0);
        witnessIs(lab, 0, 0, 0, 0);
        lab.addRule(0, 1, 0, 1, 1);
        lab.removeRule(0);
        witnessIs(lab, 0, 11);
        CHECKS.due("witness(0, 0, 0, 0)", lab.witness(0, 0, 0, 0), StackLab.NONE);
        lab.undo();
        witnessIs(lab, 0, 0, 0, 0);
    }
}
