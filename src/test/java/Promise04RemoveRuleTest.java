/** Promise 4: removeRule. */
final class Promise04RemoveRuleTest {
    private static final Checks CHECKS = new Checks("promise 4, removeRule");

    private Promise04RemoveRuleTest() {
    }

    public static void main(String[] args) {
        new Names(CHECKS, "removeRule").rules(StackLab::removeRule);
        answersHowManyAreLeft();
        decreasesLaterNumbers();
        removesTheOnlyRule();
        removesWhatTheRuleDid();
        isAChange();
        CHECKS.end();
    }

    /** "Returns how many rules are left", down to 0. */
    private static void answersHowManyAreLeft() {
        StackLab lab = Labs.withRules(20);
        for (int left = 19; left >= 0; left--) {
            CHECKS.due("removeRule", lab.removeRule(left / 2), left);
            CHECKS.due("told(2)", lab.told(2), left);
        }
        CHECKS.due("removeRule(0) of none", lab.removeRule(0), StackLab.BAD_NAME);
    }

    /** "the numbers of later ones decrease by 1"; those of earlier ones stay. */
    private static void decreasesLaterNumbers() {
        for (int many : new int[] {3, 20}) {
            for (int removed : new int[] {0, 1, many - 2, many - 1}) {
                StackLab lab = Labs.withRules(many);
                StackLab whole = Labs.withRules(many);
                CHECKS.due("removeRule(" + removed + ")", lab.removeRule(removed), many - 1);
                for (int k = 0; k < many - 1; k++) {
                    CHECKS.dueAll("rule " + k + " without " + removed, Labs.rule(lab, k),
                            Labs.rule(whole, k < removed ? k : k + 1));
                }
                CHECKS.due("the last number", lab.rule(many - 1, 0), StackLab.BAD_NAME);
            }
        }
    }

    private static void removesTheOnlyRule() {
        StackLab lab = Labs.withRules(1);
        CHECKS.due("removeRule(0)", lab.removeRule(0), 0);
        CHECKS.due("rule(0, 0)", lab.rule(0, 0), StackLab.BAD_NAME);
        CHECKS.dueAll("told", Labs.told(lab), 2, 3, 0, 0, 1, 0, 0, 0);
    }

    private static void removesWhatTheRuleDid() {
        StackLab lab = Labs.used();
        CHECKS.due("distance(1, 13)", lab.distance(1, 13), 7);
        CHECKS.due("critical(1, 13)", lab.critical(1, 13), 3);
        CHECKS.due("removeRule(2)", lab.removeRule(2), 2);
        CHECKS.due("distance(1, 13)", lab.distance(1, 13), 7);
        CHECKS.due("removeRule(1)", lab.removeRule(1), 1);
        CHECKS.due("distance(1, 13)", lab.distance(1, 13), StackLab.NONE);
        CHECKS.due("price(0, 2, 1)", lab.price(0, 2, 1), StackLab.NONE);
    }

    /** "This is a change": undone, the rules have their numbers again. */
    private static void isAChange() {
        for (int removed = 0; removed < 3; removed++) {
            StackLab lab = Labs.used();
            lab.removeRule(removed);
            CHECKS.due("undo()", lab.undo(), 5);
            CHECKS.dueTrue("all is as before", Labs.seen(lab).equals(Labs.seen(Labs.used())));
        }
    }
}
