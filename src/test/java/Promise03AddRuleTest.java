/** Promise 3: addRule. */
final class Promise03AddRuleTest {
    private static final Checks CHECKS = new Checks("promise 3, addRule");
    private static final Names NAMES = new Names(CHECKS, "addRule");

    private Promise03AddRuleTest() {
    }

    public static void main(String[] args) {
        NAMES.states((lab, p) -> lab.addRule(p, 1, 0, 1, 1));
        NAMES.symbols((lab, x) -> lab.addRule(0, x, 0, 1, 1));
        NAMES.states((lab, q) -> lab.addRule(0, 1, q, 1, 1));
        NAMES.words(0, 2, (lab, word) -> lab.addRule(0, 1, 0, word, 1));
        takesWordsOf0To2Symbols();
        takesWeightsFrom1To20();
        numbersRulesFrom0To19();
        refusesARuleThatIsThere();
        takesARuleThatDiffersInOnePart();
        refusesA21stRule();
        takesA20thRuleAgain();
        reportsTheFirstError();
        isAChange();
        CHECKS.end();
    }

    /** "a word of 0 to 2 symbols": each kind is kept as it was told. */
    private static void takesWordsOf0To2Symbols() {
        StackLab lab = new StackLab();
        CHECKS.due("a pop", lab.addRule(0, 1, 1, 0, 1), 0);
        CHECKS.due("a swap", lab.addRule(1, 3, 0, 2, 20), 1);
        CHECKS.due("a push", lab.addRule(1, 3, 0, 23, 7), 2);
        CHECKS.dueAll("rule 0", Labs.rule(lab, 0), 0, 1, 1, 0, 1);
        CHECKS.dueAll("rule 1", Labs.rule(lab, 1), 1, 3, 0, 2, 20);
        CHECKS.dueAll("rule 2", Labs.rule(lab, 2), 1, 3, 0, 23, 7);
        CHECKS.refused("a word of 3 symbols", StackLab.BAD_NAME, Labs::used, l -> l.addRule(0, 1, 1, 111, 1));
    }

    /** "weight: its weight, 1 to 20". */
    private static void takesWeightsFrom1To20() {
        for (int weight = 1; weight <= 20; weight++) {
            StackLab lab = new StackLab();
            CHECKS.due("the weight " + weight, lab.addRule(0, 1, 0, 0, weight), 0);
            CHECKS.due("rule(0, 4)", lab.rule(0, 4), weight);
            CHECKS.due("distance(0, 0)", lab.distance(0, 0), weight);
        }
        for (int weight : new int[] {0, 21, -1, Integer.MIN_VALUE, Integer.MAX_VALUE}) {
            CHECKS.refused("the weight " + weight, StackLab.BAD_VALUE, Labs::used,
                    lab -> lab.addRule(1, 1, 1, 1, weight));
        }
    }

    /** "at most 20 rules, numbered from 0 in the order in which they were added". */
    private static void numbersRulesFrom0To19() {
        StackLab lab = new StackLab();
        lab.begin(4, 5);
        for (int k = 0; k < 20; k++) {
            CHECKS.due("addRule", lab.addRule(k % 4, 1 + k / 4, 3 - k % 4, 1 + k / 4, 20 - k), k);
        }
        for (int k = 0; k < 20; k++) {
            CHECKS.dueAll("rule " + k, Labs.rule(lab, k), k % 4, 1 + k / 4, 3 - k % 4, 1 + k / 4, 20 - k);
        }
    }

    /** "no two rules have the same p, X, q and word", whatever their weights are. */
    private static void refusesARuleThatIsThere() {
        for (int weight : new int[] {1, 3, 20}) {
            CHECKS.refused("rule 0 again with " + weight, StackLab.THERE, Labs::used,
                    lab -> lab.addRule(0, 1, 0, 21, weight));
            CHECKS.refused("rule 2 again with " + weight, StackLab.THERE, Labs::used,
                    lab -> lab.addRule(1, 1, 0, 3, weight));
        }
        StackLab lab = Labs.used();
        lab.removeRule(0);
        CHECKS.due("a rule that was removed", lab.addRule(0, 1, 0, 21, 3), 2);
        CHECKS.due("and once more", lab.addRule(0, 1, 0, 21, 3), StackLab.THERE);
    }

    private static void takesARuleThatDiffersInOnePart() {
        StackLab lab = Labs.used();
        CHECKS.due("another p", lab.addRule(1, 1, 0, 21, 3), 3);
        CHECKS.due("another X", lab.addRule(0, 2, 0, 21, 3), 4);
        CHECKS.due("another q", lab.addRule(0, 1, 1, 21, 3), 5);
        CHECKS.due("the word turned round", lab.addRule(0, 1, 0, 12, 3), 6);
        CHECKS.due("the word's first symbol", lab.addRule(0, 1, 0, 2, 3), 7);
        CHECKS.due("the word's last symbol", lab.addRule(0, 1, 0, 1, 3), 8);
        CHECKS.due("the empty word", lab.addRule(0, 1, 0, 0, 3), 9);
    }

    /** "FULL if there are 20 rules". */
    private static void refusesA21stRule() {
        CHECKS.due("a 20th rule", Labs.withRules(19).addRule(1, 3, 1, 33, 20), 19);
        CHECKS.refused("a 21st rule", StackLab.FULL, () -> Labs.withRules(20), lab -> lab.addRule(1, 3, 1, 33, 20));
    }

    private static void takesA20thRuleAgain() {
        StackLab removed = Labs.withRules(20);
        removed.removeRule(0);
        CHECKS.due("addRule after removeRule", removed.addRule(1, 3, 1, 33, 20), 19);
        CHECKS.due("one more", removed.addRule(1, 3, 1, 32, 20), StackLab.FULL);
        StackLab undone = Labs.withRules(20);
        undone.undo();
        CHECKS.due("addRule after undo", undone.addRule(1, 3, 1, 33, 20), 19);
        CHECKS.due("one more", undone.addRule(1, 3, 1, 32, 20), StackLab.FULL);
    }

    /** "If several errors apply to a call, the one that is named first .. is reported." */
    private static void reportsTheFirstError() {
        int[][] badNames = {{2, 1, 0, 0}, {0, 4, 0, 0}, {0, 1, 2, 0}, {0, 1, 0, 4}, {0, 1, 0, 111}, {0, 1, 0, 10}};
        for (int[] c : badNames) {
            CHECKS.refused("a bad name and a bad weight", StackLab.BAD_NAME, Labs::used,
                    lab -> lab.addRule(c[0], c[1], c[2], c[3], 21));
            CHECKS.refused("a bad name when full", StackLab.BAD_NAME, () -> Labs.withRules(20),
                    lab -> lab.addRule(c[0], c[1], c[2], c[3], 1));
            CHECKS.refused("a bad name and a bad weight when full", StackLab.BAD_NAME, () -> Labs.withRules(20),
                    lab -> lab.addRule(c[0], c[1], c[2], c[3], 0));
        }
        CHECKS.refused("a bad weight, and there", StackLab.BAD_VALUE, Labs::used,
                lab -> lab.addRule(0, 1, 0, 21, 0));
        CHECKS.refused("a bad weight when full", StackLab.BAD_VALUE, () -> Labs.withRules(20),
                lab -> lab.addRule(1, 1, 1, 1, 21));
        CHECKS.refused("a bad weight, and there, when full", StackLab.BAD_VALUE, () -> Labs.withRules(20),
                lab -> lab.addRule(0, 1, 0, 0, 21));
        CHECKS.refused("there, when full", StackLab.THERE, () -> Labs.withRules(20),
                lab -> lab.addRule(0, 1, 0, 0, 5));
    }

    /** "This is a change." */
    private static void isAChange() {
        StackLab lab = Labs.used();
        CHECKS.due("distance(1, 13)", lab.distance(1, 13), 7);
        lab.addRule(0, 1, 1, 1, 2);
        CHECKS.due("distance(1, 13)", lab.distance(1, 13), 2);
        CHECKS.due("undo()", lab.undo(), 5);
        CHECKS.due("distance(1, 13)", lab.distance(1, 13), 7);
        CHECKS.dueTrue("all is as before", Labs.seen(lab).equals(Labs.seen(Labs.used())));
    }
}
