/** Promise 9: rule. */
final class Promise09RuleTest {
    private static final Checks CHECKS = new Checks("promise 9, rule");
    private static final int[] BEYOND = {-1, 5, Integer.MIN_VALUE, Integer.MAX_VALUE};

    private Promise09RuleTest() {
    }

    public static void main(String[] args) {
        for (int part = 0; part < 5; part++) {
            int what = part;
            new Names(CHECKS, "rule(.., " + what + ")").rules((lab, rule) -> lab.rule(rule, what));
        }
        takesNumbersFrom0To4();
        tellsTheLeastAndTheMost();
        reportsTheFirstError();
        CHECKS.end();
    }

    /** "what: 0 p, 1 X, 2 q, 3 the word, 4 the weight. Returns this; ..; BAD_VALUE". */
    private static void takesNumbersFrom0To4() {
        StackLab lab = Labs.used();
        CHECKS.dueAll("rule 0", Labs.rule(lab, 0), 0, 1, 0, 21, 3);
        CHECKS.dueAll("rule 1", Labs.rule(lab, 1), 0, 2, 1, 0, 4);
        CHECKS.dueAll("rule 2", Labs.rule(lab, 2), 1, 1, 0, 3, 6);
        for (int what : BEYOND) {
            CHECKS.refused("rule(2, " + what + ")", StackLab.BAD_VALUE, Labs::used, l -> l.rule(2, what));
        }
    }

    private static void tellsTheLeastAndTheMost() {
        StackLab lab = new StackLab();
        lab.begin(4, 5);
        lab.addRule(3, 5, 3, 55, 20);
        lab.addRule(0, 1, 0, 0, 1);
        CHECKS.dueAll("rule 0", Labs.rule(lab, 0), 3, 5, 3, 55, 20);
        CHECKS.dueAll("rule 1", Labs.rule(lab, 1), 0, 1, 0, 0, 1);
    }

    /** "BAD_NAME; BAD_VALUE": a rule that is not there counts first. */
    private static void reportsTheFirstError() {
        for (int what : BEYOND) {
            CHECKS.refused("rule(3, " + what + ")", StackLab.BAD_NAME, Labs::used, lab -> lab.rule(3, what));
            CHECKS.refused("rule(-1, " + what + ")", StackLab.BAD_NAME, Labs::used, lab -> lab.rule(-1, what));
            CHECKS.refused("rule(0, " + what + ") of none", StackLab.BAD_NAME, StackLab::new,
                    lab -> lab.rule(0, what));
        }
    }
}
