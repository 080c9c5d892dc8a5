/** Promise 13: mean. */
final class Promise13MeanTest {
    private static final Checks CHECKS = new Checks("promise 13, mean");
    private static final Names NAMES = new Names(CHECKS, "mean");

    private Promise13MeanTest() {
    }

    public static void main(String[] args) {
        NAMES.states((lab, p) -> lab.mean(p, 1));
        NAMES.words(0, 6, (lab, word) -> lab.mean(0, word));
        isZeroOfTheEmptyWitness();
        isAFloat();
        isOfTheFewestRules();
        isNoneWithoutAWitness();
        reachesStacksOf6Symbols();
        hasItsLeastAndItsMost();
        endsAtTheLimit();
        followsChanges();
        CHECKS.end();
    }

    private static void meanIs(StackLab lab, int p, int word, float want) {
        CHECKS.due("mean(" + p + ", " + word + ")", lab.mean(p, word), want);
    }

    /** "0.0 if the witness is empty". */
    private static void isZeroOfTheEmptyWitness() {
        meanIs(new StackLab(), 0, 1, 0.0f);
        StackLab lab = new StackLab();
        lab.setStart(1, 3123);
        lab.addRule(1, 3, 1, 3, 1);
        meanIs(lab, 1, 3123, 0.0f);
    }

    /** "its weight divided by their number, both converted to float". */
    private static void isAFloat() {
        StackLab lab = new StackLab();
        lab.addRule(0, 1, 0, 2, 1);
        lab.addRule(0, 2, 0, 3, 2);
        lab.addRule(0, 3, 0, 0, 4);
        meanIs(lab, 0, 2, 1.0f);
        meanIs(lab, 0, 3, 1.5f);
        meanIs(lab, 0, 0, 7.0f / 3.0f);
    }

    private static void isOfTheFewestRules() {
        StackLab lab = new StackLab();
        lab.addRule(0, 1, 0, 2, 5);
        lab.addRule(0, 2, 1, 0, 10);
        meanIs(lab, 1, 0, 7.5f);
        lab.addRule(0, 1, 1, 0, 15);
        meanIs(lab, 1, 0, 15.0f);
        lab.setWeight(2, 16);
        meanIs(lab, 1, 0, 7.5f);
    }

    /** "BAD_NAME and NONE, if there is no witness, as floats". */
    private static void isNoneWithoutAWitness() {
        StackLab lab = Labs.used();
        meanIs(lab, 0, 33, 13.0f / 3.0f);
        meanIs(lab, 1, 33, -6.0f);
        meanIs(lab, 0, 0, -6.0f);
        meanIs(lab, 2, 33, -1.0f);
        meanIs(lab, 0, 34, -1.0f);
    }

    private static void reachesStacksOf6Symbols() {
        StackLab lab = new StackLab();
        lab.addRule(0, 1, 0, 12, 7);
        meanIs(lab, 0, 122222, 7.0f);
        meanIs(lab, 0, 1222222, -1.0f);
    }

    private static void hasItsLeastAndItsMost() {
        for (int weight : new int[] {1, 20}) {
            StackLab lab = new StackLab();
            lab.setStart(0, 1111);
            lab.addRule(0, 1, 0, 0, weight);
            meanIs(lab, 0, 0, weight);
        }
    }

    /** "Only runs whose weight is at most 1000000 are considered." */
    private static void endsAtTheLimit() {
        meanIs(Limit.toBelow(999999), 0, 5, 999999.0f / (float) Limit.RULES);
        meanIs(Limit.toBelow(1000000), 0, 5, 1000000.0f / (float) Limit.RULES);
        meanIs(Limit.toBelow(1000001), 0, 5, -6.0f);
    }

    private static void followsChanges() {
        StackLab lab = new StackLab();
        meanIs(lab, 0, 0, -6.0f);
        lab.addRule(0, 1, 0, 0, 8);
        meanIs(lab, 0, 0, 8.0f);
        lab.setWeight(0, 3);
        meanIs(lab, 0, 0, 3.0f);
        lab.undo();
        meanIs(lab, 0, 0, 8.0f);
    }
}
