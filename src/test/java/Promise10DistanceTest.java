/** Promise 10: distance. */
final class Promise10DistanceTest {
    private static final Checks CHECKS = new Checks("promise 10, distance");
    private static final Names NAMES = new Names(CHECKS, "distance");

    private Promise10DistanceTest() {
    }

    public static void main(String[] args) {
        NAMES.states((lab, p) -> lab.distance(p, 1));
        NAMES.words(0, 6, (lab, word) -> lab.distance(0, word));
        isLeastOverAllRuns();
        isZeroForTheEmptyRun();
        isNoneWithoutARun();
        reachesTheEmptyStack();
        appliesNoRuleToTheEmptyStack();
        appliesRulesOnTopAlone();
        reachesStacksOf6Symbols();
        goesOverTallerStacks();
        goesThroughEachState();
        endsAtTheLimit();
        addsUpToTheLimit();
        followsChanges();
        CHECKS.end();
    }

    private static void distanceIs(StackLab lab, int p, int word, int want) {
        CHECKS.due("distance(" + p + ", " + word + ")", lab.distance(p, word), want);
    }

    /** "The distance of a configuration is the least weight of a run from the start configuration to it". */
    private static void isLeastOverAllRuns() {
        StackLab lab = new StackLab();
        lab.addRule(0, 1, 0, 21, 2);
        lab.addRule(0, 2, 1, 0, 3);
        lab.addRule(1, 1, 0, 3, 1);
        lab.addRule(0, 3, 1, 0, 7);
        lab.setStart(0, 13);
        distanceIs(lab, 0, 213, 2);
        distanceIs(lab, 1, 13, 5);
        distanceIs(lab, 0, 33, 6);
        distanceIs(lab, 1, 3, 13);
        lab.addRule(0, 1, 1, 0, 13);
        distanceIs(lab, 1, 3, 13);
        lab.setWeight(4, 12);
        distanceIs(lab, 1, 3, 12);
    }

    /** "A run .. is a sequence of rules, perhaps empty". */
    private static void isZeroForTheEmptyRun() {
        for (int start : new int[] {1, 3, 12, 3123}) {
            StackLab lab = new StackLab();
            lab.setStart(1, start);
            distanceIs(lab, 1, start, 0);
            distanceIs(lab, 0, start, StackLab.NONE);
            lab.addRule(1, start % 10, 1, start % 10, 1);
            distanceIs(lab, 1, start, 0);
        }
    }

    /** "NONE if there is none". */
    private static void isNoneWithoutARun() {
        StackLab lab = Labs.used();
        distanceIs(lab, 0, 33, 13);
        distanceIs(lab, 0, 3, StackLab.NONE);
        distanceIs(lab, 0, 133, StackLab.NONE);
        distanceIs(lab, 1, 33, StackLab.NONE);
        distanceIs(lab, 1, 31, StackLab.NONE);
        distanceIs(lab, 0, 0, StackLab.NONE);
    }

    /** "0 is the empty word". */
    private static void reachesTheEmptyStack() {
        StackLab lab = new StackLab();
        lab.addRule(0, 1, 1, 0, 8);
        distanceIs(lab, 1, 0, 8);
        distanceIs(lab, 0, 0, StackLab.NONE);
        lab.addRule(1, 1, 0, 0, 5);
        lab.setStart(0, 1111);
        distanceIs(lab, 0, 0, 26);
        distanceIs(lab, 1, 1, 21);
        distanceIs(lab, 1, 0, StackLab.NONE);
    }

    /** A rule applies to a configuration "with the state p and X on top": to none without a symbol. */
    private static void appliesNoRuleToTheEmptyStack() {
        StackLab lab = new StackLab();
        lab.addRule(0, 1, 1, 0, 1);
        lab.addRule(1, 1, 0, 2, 1);
        lab.addRule(1, 2, 0, 2, 1);
        lab.addRule(1, 3, 0, 23, 1);
        distanceIs(lab, 1, 0, 1);
        distanceIs(lab, 0, 0, StackLab.NONE);
        distanceIs(lab, 0, 2, StackLab.NONE);
        distanceIs(lab, 0, 23, StackLab.NONE);
    }

    private static void appliesRulesOnTopAlone() {
        StackLab lab = new StackLab();
        lab.setStart(0, 12);
        lab.addRule(0, 2, 0, 3, 1);
        distanceIs(lab, 0, 13, StackLab.NONE);
        lab.addRule(0, 1, 0, 0, 1);
        distanceIs(lab, 0, 13, StackLab.NONE);
        distanceIs(lab, 0, 3, 2);
    }

    /** "word: a stack, of 0 to 6 symbols". */
    private static void reachesStacksOf6Symbols() {
        StackLab lab = new StackLab();
        lab.addRule(0, 1, 0, 12, 1);
        int word = 1;
        for (int symbols = 1; symbols <= 6; symbols++) {
            distanceIs(lab, 0, word, symbols - 1);
            word = word * 10 + 2;
        }
        distanceIs(lab, 0, 1222222, StackLab.BAD_NAME);
        distanceIs(lab, 0, 1222221, StackLab.BAD_NAME);
    }

    /** A run may grow the stack far over what can be asked for: 1 grows to 8 symbols, and all go. */
    private static void goesOverTallerStacks() {
        StackLab lab = new StackLab();
        lab.begin(4, 5);
        for (int x = 1; x <= 4; x++) {
            lab.addRule(0, x, 0, (x + 1) * 11, 1);
        }
        lab.addRule(0, 5, 1, 55, 1);
        lab.addRule(1, 5, 2, 55, 1);
        lab.addRule(2, 5, 3, 55, 1);
        lab.addRule(3, 5, 3, 0, 1);
        for (int x = 1; x <= 4; x++) {
            lab.addRule(3, x, 3, 0, 1);
        }
        distanceIs(lab, 3, 0, 15);
        distanceIs(lab, 3, 2, 14);
        distanceIs(lab, 0, 0, StackLab.NONE);
    }

    /** The symbol below a push is reached in any state in which the upper one was removed. */
    private static void goesThroughEachState() {
        for (int middle = 0; middle < 4; middle++) {
            StackLab lab = new StackLab();
            lab.begin(4, 5);
            lab.setStart(3, 15);
            lab.addRule(middle, 4, 1, 45, 1);
            lab.addRule(middle, 3, middle, 4, 2);
            lab.addRule(3, 2, middle, 0, 3);
            lab.addRule(3, 1, 3, 23, 4);
            distanceIs(lab, middle, 35, 7);
            distanceIs(lab, middle, 45, 9);
            distanceIs(lab, 1, 455, 10);
        }
        for (int middle = 0; middle < 4; middle++) {
            StackLab lab = new StackLab();
            lab.begin(4, 5);
            lab.setStart(3, 55);
            lab.addRule(3, 5, 3, 1, 1);
            lab.addRule(3, 1, 3, 23, 2);
            lab.addRule(3, 2, middle, 0, 3);
            distanceIs(lab, middle, 35, 6);
        }
    }

    /** "Only runs whose weight is at most 1000000 are considered." */
    private static void endsAtTheLimit() {
        for (int weight : new int[] {999999, 1000000}) {
            distanceIs(Limit.toEmptyStack(weight), 0, 0, weight);
            distanceIs(Limit.toBelow(weight), 0, 5, weight);
        }
        for (int weight : new int[] {1000001, 1000002}) {
            distanceIs(Limit.toEmptyStack(weight), 0, 0, StackLab.NONE);
            distanceIs(Limit.toBelow(weight), 0, 5, StackLab.NONE);
        }
    }

    /** "there is none .. if this sum is greater than 1000000", though no part of it is. */
    private static void addsUpToTheLimit() {
        StackLab lab = Limit.toBelow(999998);
        lab.addRule(0, 5, 0, 55, 1);
        distanceIs(lab, 0, 5, 999998);
        distanceIs(lab, 0, 55, 999999);
        distanceIs(lab, 0, 555, 1000000);
        distanceIs(lab, 0, 5555, StackLab.NONE);
        lab.setWeight(19, 2);
        distanceIs(lab, 0, 55, 1000000);
        distanceIs(lab, 0, 555, StackLab.NONE);
    }

    private static void followsChanges() {
        StackLab lab = new StackLab();
        distanceIs(lab, 0, 0, StackLab.NONE);
        lab.addRule(0, 1, 0, 0, 8);
        distanceIs(lab, 0, 0, 8);
        lab.setStart(0, 11);
        distanceIs(lab, 0, 0, 16);
        lab.setWeight(0, 9);
        distanceIs(lab, 0, 0, 18);
        lab.begin(2, 3);
        distanceIs(lab, 0, 0, StackLab.NONE);
        lab.undo();
        distanceIs(lab, 0, 0, 18);
        lab.removeRule(0);
        distanceIs(lab, 0, 0, StackLab.NONE);
        Labs.write(lab, "0a>0:3;");
        lab.load();
        distanceIs(lab, 0, 0, 6);
    }
}
