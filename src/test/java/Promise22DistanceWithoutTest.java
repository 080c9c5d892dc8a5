/** Promise 22: distanceWithout. */
final class Promise22DistanceWithoutTest {
    private static final Checks CHECKS = new Checks("promise 22, distanceWithout");
    private static final Names NAMES = new Names(CHECKS, "distanceWithout");

    private Promise22DistanceWithoutTest() {
    }

    public static void main(String[] args) {
        NAMES.rules((lab, rule) -> lab.distanceWithout(rule, 0, 1));
        NAMES.states((lab, p) -> lab.distanceWithout(1, p, 1));
        NAMES.words(0, 6, (lab, word) -> lab.distanceWithout(1, 0, word));
        isTheDistanceIfTheRuleIsNotMissed();
        isGreaterIfThereIsAnotherWay();
        isNoneIfThereWouldBeNone();
        isZeroAtTheStart();
        leavesOutTheFirstAndTheLastRule();
        reachesStacksOf6Symbols();
        endsAtTheLimit();
        leavesTheRule();
        CHECKS.end();
    }

    private static void withoutIs(StackLab lab, int p, int word, int... want) {
        for (int rule = 0; rule < want.length; rule++) {
            CHECKS.due("distanceWithout(" + rule + ", " + p + ", " + word + ")", lab.distanceWithout(rule, p, word),
                    want[rule]);
        }
    }

    private static void isTheDistanceIfTheRuleIsNotMissed() {
        StackLab lab = new StackLab();
        lab.addRule(0, 1, 0, 22, 3);
        lab.addRule(0, 2, 0, 0, 4);
        lab.addRule(0, 3, 0, 0, 5);
        withoutIs(lab, 0, 22, StackLab.NONE, 3, 3);
        withoutIs(lab, 0, 0, StackLab.NONE, StackLab.NONE, 11);
    }

    private static void isGreaterIfThereIsAnotherWay() {
        StackLab lab = new StackLab();
        lab.addRule(0, 1, 0, 2, 1);
        lab.addRule(0, 2, 1, 0, 4);
        lab.addRule(0, 2, 0, 3, 2);
        lab.addRule(0, 3, 1, 0, 5);
        withoutIs(lab, 1, 0, StackLab.NONE, 8, 5, 5);
        lab.setWeight(1, 7);
        withoutIs(lab, 1, 0, StackLab.NONE, 8, 8, 8);
    }

    /** "NONE if there would be none", also if there is none with the rule. */
    private static void isNoneIfThereWouldBeNone() {
        StackLab lab = Labs.used();
        withoutIs(lab, 1, 13, StackLab.NONE, StackLab.NONE, 7);
        withoutIs(lab, 1, 3, StackLab.NONE, StackLab.NONE, StackLab.NONE);
        withoutIs(lab, 0, 0, StackLab.NONE, StackLab.NONE, StackLab.NONE);
    }

    private static void isZeroAtTheStart() {
        StackLab lab = new StackLab();
        lab.addRule(0, 1, 0, 1, 1);
        lab.addRule(0, 1, 0, 0, 20);
        withoutIs(lab, 0, 1, 0, 0);
        withoutIs(lab, 0, 0, 20, StackLab.NONE);
    }

    private static void leavesOutTheFirstAndTheLastRule() {
        StackLab lab = Labs.withRules(20);
        CHECKS.due("distanceWithout(0, 0, 0)", lab.distanceWithout(0, 0, 0), StackLab.NONE);
        CHECKS.due("distanceWithout(1, 0, 0)", lab.distanceWithout(1, 0, 0), 1);
        CHECKS.due("distanceWithout(19, 0, 0)", lab.distanceWithout(19, 0, 0), 1);
        lab.setWeight(12, 20);
        CHECKS.due("distanceWithout(19, 1, 23)", lab.distanceWithout(19, 1, 23), 26);
        CHECKS.due("distanceWithout(18, 1, 23)", lab.distanceWithout(18, 1, 23), 20);
    }

    private static void reachesStacksOf6Symbols() {
        StackLab lab = new StackLab();
        lab.addRule(0, 1, 0, 12, 1);
        lab.addRule(0, 1, 1, 1, 1);
        withoutIs(lab, 0, 122222, StackLab.NONE, 5);
        withoutIs(lab, 0, 1222222, StackLab.BAD_NAME, StackLab.BAD_NAME);
    }

    /** "Only runs whose weight is at most 1000000 are considered": rule 19 is a short way. */
    private static void endsAtTheLimit() {
        for (int weight = 999999; weight <= 1000002; weight++) {
            StackLab lab = Limit.toBelow(weight);
            lab.addRule(1, 4, 0, 0, 20);
            CHECKS.due("distance(0, 5)", lab.distance(0, 5), 20);
            CHECKS.due("distanceWithout(19, 0, 5)", lab.distanceWithout(19, 0, 5),
                    weight <= 1000000 ? weight : StackLab.NONE);
            CHECKS.due("distanceWithout(13, 0, 5)", lab.distanceWithout(13, 0, 5), 20);
        }
    }

    /** The distance "that the configuration would have": nothing is removed or renumbered. */
    private static void leavesTheRule() {
        StackLab lab = Labs.used();
        for (int rule = 0; rule < 3; rule++) {
            lab.distanceWithout(rule, 1, 13);
            CHECKS.due("distance(1, 13)", lab.distance(1, 13), 7);
            CHECKS.due("witness(1, 13, 1, 0)", lab.witness(1, 13, 1, 0), 1);
            CHECKS.due("headDistance(1, 1)", lab.headDistance(1, 1), 7);
            CHECKS.due("price(0, 2, 1)", lab.price(0, 2, 1), 4);
        }
        CHECKS.dueTrue("all is as before", Labs.seen(lab).equals(Labs.seen(Labs.used())));
    }
}
