/** Promise 14: headDistance. */
final class Promise14HeadDistanceTest {
    private static final Checks CHECKS = new Checks("promise 14, headDistance");
    private static final Names NAMES = new Names(CHECKS, "headDistance");

    private Promise14HeadDistanceTest() {
    }

    public static void main(String[] args) {
        NAMES.states((lab, p) -> lab.headDistance(p, 1));
        NAMES.symbols((lab, x) -> lab.headDistance(0, x));
        isZeroAtTheStart();
        isNoneIfItIsNeverReached();
        isLeastOverAllStacks();
        looksBelowWhatIsRemoved();
        countsNoEmptyStack();
        goesThroughEachNode();
        looksAtTallStacksToo();
        endsAtTheLimit();
        followsChanges();
        CHECKS.end();
    }

    private static void headIs(StackLab lab, int p, int x, int want) {
        CHECKS.due("headDistance(" + p + ", " + x + ")", lab.headDistance(p, x), want);
    }

    private static void isZeroAtTheStart() {
        for (int start : new int[] {3, 32, 3333}) {
            StackLab lab = new StackLab();
            lab.setStart(1, start);
            headIs(lab, 1, 3, 0);
            headIs(lab, 0, 3, StackLab.NONE);
            headIs(lab, 1, 2, StackLab.NONE);
        }
    }

    /** "NONE if there is none". */
    private static void isNoneIfItIsNeverReached() {
        StackLab lab = Labs.used();
        headIs(lab, 0, 1, 0);
        headIs(lab, 0, 2, 3);
        headIs(lab, 0, 3, 13);
        headIs(lab, 1, 1, 7);
        headIs(lab, 1, 2, StackLab.NONE);
        headIs(lab, 1, 3, StackLab.NONE);
    }

    /** "the least distance of a configuration with the state p and x on top", whatever is below. */
    private static void isLeastOverAllStacks() {
        StackLab lab = new StackLab();
        lab.addRule(0, 1, 1, 2, 5);
        lab.addRule(0, 1, 1, 23, 4);
        headIs(lab, 1, 2, 4);
        lab.setWeight(1, 6);
        headIs(lab, 1, 2, 5);
    }

    private static void looksBelowWhatIsRemoved() {
        StackLab lab = Labs.removing();
        headIs(lab, 0, 2, 1);
        headIs(lab, 1, 2, 3);
        headIs(lab, 0, 3, 6);
        headIs(lab, 1, 3, StackLab.NONE);
    }

    /** A configuration with the empty stack has nothing on top. */
    private static void countsNoEmptyStack() {
        StackLab lab = new StackLab();
        lab.addRule(0, 1, 1, 0, 1);
        for (int x = 1; x <= 3; x++) {
            headIs(lab, 1, x, StackLab.NONE);
        }
    }

    /** Each pair of a state and a symbol can be what a push puts on top, and what others come from. */
    private static void goesThroughEachNode() {
        for (int q = 0; q < 4; q++) {
            for (int y = 1; y <= 5; y++) {
                StackLab lab = Labs.pushingTo(q, y);
                headIs(lab, q, y, 6);
                headIs(lab, (q + 2) % 4, 1, 11);
                headIs(lab, (q + 3) % 4, 2, 15);
            }
        }
    }

    /** Only nearestStack() minds that a stack has more than 6 symbols. */
    private static void looksAtTallStacksToo() {
        headIs(Labs.climbing(111), 3, 1, 3);
        headIs(Labs.climbing(1111), 3, 1, 3);
    }

    /** "Only runs whose weight is at most 1000000 are considered." */
    private static void endsAtTheLimit() {
        headIs(Limit.toBelow(999999), 0, 5, 999999);
        headIs(Limit.toBelow(1000000), 0, 5, 1000000);
        headIs(Limit.toBelow(1000001), 0, 5, StackLab.NONE);
    }

    private static void followsChanges() {
        StackLab lab = new StackLab();
        headIs(lab, 1, 2, StackLab.NONE);
        lab.addRule(0, 1, 1, 2, 6);
        headIs(lab, 1, 2, 6);
        lab.setStart(1, 2);
        headIs(lab, 1, 2, 0);
        lab.undo();
        lab.setWeight(0, 7);
        headIs(lab, 1, 2, 7);
        lab.removeRule(0);
        headIs(lab, 1, 2, StackLab.NONE);
        lab.addRule(1, 2, 0, 32, 1);
        lab.addRule(1, 2, 0, 33, 9);
        lab.setStart(1, 2);
        headIs(lab, 0, 3, 1);
        lab.removeRule(1);
        headIs(lab, 0, 3, 1);
        lab.removeRule(0);
        headIs(lab, 0, 3, StackLab.NONE);
    }
}
