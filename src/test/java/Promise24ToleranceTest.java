/** Promise 24: tolerance. */
final class Promise24ToleranceTest {
    private static final Checks CHECKS = new Checks("promise 24, tolerance");
    private static final Names NAMES = new Names(CHECKS, "tolerance");

    private Promise24ToleranceTest() {
    }

    public static void main(String[] args) {
        NAMES.rules((lab, rule) -> lab.tolerance(rule, 0, 1));
        NAMES.states((lab, p) -> lab.tolerance(1, p, 1));
        NAMES.words(0, 6, (lab, word) -> lab.tolerance(1, 0, word));
        endsAtTheWeight20();
        isZeroIfTheRuleIsNeeded();
        isAsMuchAsCanBeIfThereIsAnotherWay();
        isNoneWithoutADistance();
        reachesStacksOf6Symbols();
        endsAtTheLimit();
        changesNoWeight();
        CHECKS.end();
    }

    private static void toleranceIs(StackLab lab, int p, int word, int... want) {
        for (int rule = 0; rule < want.length; rule++) {
            CHECKS.due("tolerance(" + rule + ", " + p + ", " + word + ")", lab.tolerance(rule, p, word), want[rule]);
        }
    }

    /** "the greatest number from 0 to 19, but such that the weight is at most 20". */
    private static void endsAtTheWeight20() {
        StackLab lab = new StackLab();
        lab.addRule(1, 1, 0, 0, 1);
        for (int weight = 1; weight <= 20; weight++) {
            lab.setWeight(0, weight);
            toleranceIs(lab, 0, 1, 20 - weight);
        }
    }

    /** "so that the distance of a configuration stays": not even 1 more does. */
    private static void isZeroIfTheRuleIsNeeded() {
        StackLab lab = new StackLab();
        lab.addRule(0, 1, 0, 22, 3);
        lab.addRule(0, 2, 0, 0, 4);
        lab.addRule(0, 3, 0, 0, 5);
        toleranceIs(lab, 0, 0, 0, 0, 15);
        toleranceIs(lab, 0, 22, 0, 16, 15);
        for (int weight : new int[] {1, 20}) {
            lab.setWeight(1, weight);
            toleranceIs(lab, 0, 0, 0, 0, 15);
        }
    }

    /** The other way must have the same weight: with one more, the rule is needed. */
    private static void isAsMuchAsCanBeIfThereIsAnotherWay() {
        StackLab lab = new StackLab();
        lab.addRule(0, 1, 0, 2, 1);
        lab.addRule(0, 2, 1, 0, 7);
        lab.addRule(0, 2, 0, 3, 2);
        lab.addRule(0, 3, 1, 0, 5);
        toleranceIs(lab, 1, 0, 0, 13, 18, 15);
        lab.setWeight(1, 6);
        toleranceIs(lab, 1, 0, 0, 0, 18, 15);
        lab.setWeight(1, 8);
        toleranceIs(lab, 1, 0, 0, 12, 0, 0);
    }

    /** "NONE if the configuration has no distance". */
    private static void isNoneWithoutADistance() {
        StackLab lab = Labs.used();
        toleranceIs(lab, 1, 3, StackLab.NONE, StackLab.NONE, StackLab.NONE);
        toleranceIs(lab, 0, 0, StackLab.NONE, StackLab.NONE, StackLab.NONE);
        toleranceIs(lab, 0, 13, 17, 16, 14);
    }

    private static void reachesStacksOf6Symbols() {
        StackLab lab = new StackLab();
        lab.addRule(0, 1, 0, 12, 1);
        lab.addRule(0, 1, 1, 1, 1);
        toleranceIs(lab, 0, 122222, 0, 19);
        toleranceIs(lab, 0, 1222222, StackLab.BAD_NAME, StackLab.BAD_NAME);
    }

    /** "Only runs whose weight is at most 1000000 are considered." */
    private static void endsAtTheLimit() {
        for (int weight = 999999; weight <= 1000001; weight++) {
            boolean there = weight <= 1000000;
            StackLab lab = Limit.toBelow(weight);
            lab.addRule(0, 4, 0, 4, 1);
            CHECKS.due("tolerance(LAST, 0, 5)", lab.tolerance(Limit.LAST, 0, 5), there ? 0 : StackLab.NONE);
            CHECKS.due("tolerance(19, 0, 5)", lab.tolerance(19, 0, 5), there ? 19 : StackLab.NONE);
        }
        StackLab lab = Limit.toBelow(1000001);
        lab.addRule(1, 4, 0, 0, 19);
        CHECKS.due("tolerance of a short way", lab.tolerance(19, 0, 5), 0);
        CHECKS.due("tolerance of the long way", lab.tolerance(Limit.LAST, 0, 5), 12);
    }

    private static void changesNoWeight() {
        StackLab lab = Labs.used();
        for (int rule = 0; rule < 3; rule++) {
            lab.tolerance(rule, 1, 13);
            CHECKS.due("distance(1, 13)", lab.distance(1, 13), 7);
            CHECKS.due("price(0, 2, 1)", lab.price(0, 2, 1), 4);
        }
        CHECKS.dueTrue("all is as before", Labs.seen(lab).equals(Labs.seen(Labs.used())));
    }
}
