/** Promise 11: steps. */
final class Promise11StepsTest {
    private static final Checks CHECKS = new Checks("promise 11, steps");
    private static final Names NAMES = new Names(CHECKS, "steps");

    private Promise11StepsTest() {
    }

    public static void main(String[] args) {
        NAMES.states((lab, p) -> lab.steps(p, 1));
        NAMES.words(0, 6, (lab, word) -> lab.steps(0, word));
        isZeroForTheEmptyRun();
        countsRulesOfTheLightestRun();
        countsTheFewestOfOneWeight();
        isNoneWithoutARun();
        reachesStacksOf6Symbols();
        countsBeyond300();
        endsAtTheLimit();
        followsChanges();
        CHECKS.end();
    }

    private static void stepsAre(StackLab lab, int p, int word, int want) {
        CHECKS.due("steps(" + p + ", " + word + ")", lab.steps(p, word), want);
    }

    /** "A run .. is a sequence of rules, perhaps empty". */
    private static void isZeroForTheEmptyRun() {
        StackLab lab = new StackLab();
        stepsAre(lab, 0, 1, 0);
        lab.setStart(1, 3123);
        lab.addRule(1, 3, 1, 3, 1);
        stepsAre(lab, 1, 3123, 0);
    }

    /** A lighter run counts though it has more rules. */
    private static void countsRulesOfTheLightestRun() {
        StackLab lab = new StackLab();
        lab.addRule(0, 1, 1, 0, 20);
        stepsAre(lab, 1, 0, 1);
        lab.addRule(0, 1, 0, 2, 5);
        lab.addRule(0, 2, 0, 3, 5);
        lab.addRule(0, 3, 1, 0, 9);
        stepsAre(lab, 1, 0, 3);
        lab.setWeight(3, 11);
        stepsAre(lab, 1, 0, 1);
    }

    /** "Of all runs .. with the least weight, those with the fewest rules are the best ones". */
    private static void countsTheFewestOfOneWeight() {
        StackLab lab = new StackLab();
        lab.addRule(0, 1, 0, 2, 5);
        lab.addRule(0, 2, 0, 3, 5);
        lab.addRule(0, 3, 1, 0, 10);
        stepsAre(lab, 1, 0, 3);
        lab.addRule(0, 1, 1, 0, 20);
        stepsAre(lab, 1, 0, 1);
        lab.removeRule(3);
        lab.addRule(0, 2, 1, 0, 15);
        stepsAre(lab, 1, 0, 2);
    }

    /** "NONE if there is none". */
    private static void isNoneWithoutARun() {
        StackLab lab = Labs.used();
        stepsAre(lab, 0, 33, 3);
        stepsAre(lab, 1, 33, StackLab.NONE);
        stepsAre(lab, 0, 0, StackLab.NONE);
    }

    private static void reachesStacksOf6Symbols() {
        StackLab lab = new StackLab();
        lab.addRule(0, 1, 0, 12, 7);
        stepsAre(lab, 0, 122222, 5);
        stepsAre(lab, 0, 1222222, StackLab.BAD_NAME);
    }

    /** The bound of 300 is one of witness() alone. */
    private static void countsBeyond300() {
        for (int steps : new int[] {299, 300, 301, 302}) {
            stepsAre(Chains.withSteps(steps).makeLab(), 0, 0, steps);
        }
        stepsAre(Limit.toEmptyStack(1000000), 0, 0, Limit.RULES);
    }

    /** "Only runs whose weight is at most 1000000 are considered." */
    private static void endsAtTheLimit() {
        stepsAre(Limit.toBelow(1000000), 0, 5, Limit.RULES);
        stepsAre(Limit.toBelow(1000001), 0, 5, StackLab.NONE);
        stepsAre(Limit.toEmptyStack(1000001), 0, 0, StackLab.NONE);
    }

    private static void followsChanges() {
        StackLab lab = new StackLab();
        lab.addRule(0, 1, 0, 0, 8);
        stepsAre(lab, 0, 0, 1);
        lab.setStart(0, 1111);
        stepsAre(lab, 0, 0, 4);
        lab.undo();
        stepsAre(lab, 0, 0, 1);
        lab.removeRule(0);
        stepsAre(lab, 0, 0, StackLab.NONE);
    }
}
