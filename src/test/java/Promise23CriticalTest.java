/** Promise 23: critical. */
final class Promise23CriticalTest {
    private static final Checks CHECKS = new Checks("promise 23, critical");
    private static final Names NAMES = new Names(CHECKS, "critical");

    private Promise23CriticalTest() {
    }

    public static void main(String[] args) {
        NAMES.states((lab, p) -> lab.critical(p, 1));
        NAMES.words(0, 6, (lab, word) -> lab.critical(0, word));
        isTheEmptySetAtTheStart();
        isNoneWithoutADistance();
        hasRulesWithoutWhichThereIsNone();
        hasRulesWithoutWhichItIsAnother();
        hasNoRuleOfTwoWays();
        hasBits0To19();
        reachesStacksOf6Symbols();
        endsAtTheLimit();
        mindsNoOtherCall();
        followsChanges();
        CHECKS.end();
    }

    private static void criticalIs(StackLab lab, int p, int word, int want) {
        CHECKS.due("critical(" + p + ", " + word + ")", lab.critical(p, word), want);
    }

    /** No rule is needed for the empty run, so the set is 0, which is not NONE. */
    private static void isTheEmptySetAtTheStart() {
        criticalIs(new StackLab(), 0, 1, 0);
        StackLab lab = new StackLab();
        lab.addRule(0, 1, 0, 1, 1);
        lab.addRule(0, 1, 0, 0, 20);
        criticalIs(lab, 0, 1, 0);
        criticalIs(lab, 0, 0, 2);
    }

    /** "NONE if it has none". */
    private static void isNoneWithoutADistance() {
        criticalIs(new StackLab(), 1, 1, StackLab.NONE);
        criticalIs(new StackLab(), 0, 0, StackLab.NONE);
        criticalIs(Labs.used(), 1, 3, StackLab.NONE);
    }

    /** "without which the configuration would have .. none". */
    private static void hasRulesWithoutWhichThereIsNone() {
        StackLab lab = Labs.used();
        criticalIs(lab, 0, 13, 0);
        criticalIs(lab, 0, 213, 1);
        criticalIs(lab, 1, 13, 3);
        criticalIs(lab, 0, 33, 7);
    }

    /** "without which the configuration would have another distance". */
    private static void hasRulesWithoutWhichItIsAnother() {
        StackLab lab = new StackLab();
        lab.addRule(0, 1, 0, 2, 1);
        lab.addRule(0, 2, 1, 0, 4);
        lab.addRule(0, 2, 0, 3, 2);
        lab.addRule(0, 3, 1, 0, 3);
        criticalIs(lab, 1, 0, 3);
        lab.setWeight(1, 6);
        criticalIs(lab, 1, 0, 13);
    }

    /** Of two ways with the same weight none is missed, though the witness takes one of them. */
    private static void hasNoRuleOfTwoWays() {
        StackLab lab = new StackLab();
        lab.addRule(0, 1, 0, 2, 1);
        lab.addRule(0, 2, 1, 0, 5);
        lab.addRule(0, 2, 0, 3, 2);
        lab.addRule(0, 3, 1, 0, 3);
        criticalIs(lab, 1, 0, 1);
    }

    /** "bit k stands for rule k", for 20 rules. */
    private static void hasBits0To19() {
        StackLab lab = Labs.withRules(20);
        criticalIs(lab, 0, 0, 1);
        criticalIs(lab, 1, 0, 2);
        criticalIs(lab, 0, 23, 1 << 12 | 1 << 4);
        lab.setWeight(12, 20);
        criticalIs(lab, 0, 23, 1 << 18);
        criticalIs(lab, 1, 23, 1 << 19);
        criticalIs(Chains.withSteps(4999).makeLab(), 0, 0, (1 << 20) - 1);
        criticalIs(Chains.withSteps(301).makeLab(), 0, 0, (1 << 13) - 1);
        criticalIs(Chains.withSteps(302).makeLab(), 0, 0, (1 << 13) - 1);
    }

    private static void reachesStacksOf6Symbols() {
        StackLab lab = new StackLab();
        lab.addRule(0, 1, 0, 12, 1);
        criticalIs(lab, 0, 122222, 1);
        criticalIs(lab, 0, 1222222, StackLab.BAD_NAME);
    }

    /** "Only runs whose weight is at most 1000000 are considered." */
    private static void endsAtTheLimit() {
        criticalIs(Limit.toBelow(999999), 0, 5, (1 << 19) - 1);
        criticalIs(Limit.toBelow(1000000), 0, 5, (1 << 19) - 1);
        criticalIs(Limit.toBelow(1000001), 0, 5, StackLab.NONE);
        for (int weight = 999999; weight <= 1000001; weight++) {
            StackLab lab = Limit.toBelow(weight);
            lab.addRule(1, 4, 0, 0, 20);
            criticalIs(lab, 0, 5, 1 << 19);
        }
    }

    /** What was asked of another configuration just before does not count. */
    private static void mindsNoOtherCall() {
        StackLab lab = Labs.used();
        lab.witness(0, 213, 0, 0);
        criticalIs(lab, 1, 13, 3);
        lab.critical(0, 213);
        criticalIs(lab, 0, 33, 7);
        lab.witness(0, 33, 0, 0);
        criticalIs(lab, 0, 13, 0);
        lab.distanceWithout(0, 0, 33);
        criticalIs(lab, 0, 33, 7);
    }

    private static void followsChanges() {
        StackLab lab = new StackLab();
        lab.addRule(0, 1, 1, 0, 5);
        criticalIs(lab, 1, 0, 1);
        lab.addRule(0, 1, 1, 2, 1);
        lab.addRule(1, 2, 1, 0, 4);
        criticalIs(lab, 1, 0, 0);
        lab.setWeight(0, 6);
        criticalIs(lab, 1, 0, 6);
        lab.removeRule(0);
        criticalIs(lab, 1, 0, 3);
        lab.undo();
        criticalIs(lab, 1, 0, 6);
    }
}
