/** Promise 15: nearestStack. */
final class Promise15NearestStackTest {
    private static final Checks CHECKS = new Checks("promise 15, nearestStack");
    private static final Names NAMES = new Names(CHECKS, "nearestStack");

    private Promise15NearestStackTest() {
    }

    public static void main(String[] args) {
        NAMES.states((lab, p) -> lab.nearestStack(p, 1));
        NAMES.symbols((lab, x) -> lab.nearestStack(0, x));
        isTheStartStack();
        isNoneIfItIsNeverReached();
        takesTheLeastDistance();
        takesTheFewestSymbolsOfOneDistance();
        takesTheLeastNumberOfOneLength();
        tellsWhatIsBelow();
        goesThroughEachNode();
        mixesNoNodes();
        tellsAtMost6Symbols();
        tellsNoLongerStackInPlaceOfAHeavierOne();
        endsAtTheLimit();
        followsChanges();
        CHECKS.end();
    }

    private static void stackIs(StackLab lab, int p, int x, int want) {
        CHECKS.due("nearestStack(" + p + ", " + x + ")", lab.nearestStack(p, x), want);
    }

    private static void isTheStartStack() {
        for (int start : new int[] {3, 32, 321, 3333}) {
            StackLab lab = new StackLab();
            lab.setStart(1, start);
            stackIs(lab, 1, 3, start);
            stackIs(lab, 0, 3, StackLab.NONE);
            stackIs(lab, 1, 1, StackLab.NONE);
        }
    }

    /** "NONE if there is none". */
    private static void isNoneIfItIsNeverReached() {
        StackLab lab = Labs.used();
        stackIs(lab, 0, 1, 13);
        stackIs(lab, 0, 2, 213);
        stackIs(lab, 0, 3, 33);
        stackIs(lab, 1, 1, 13);
        stackIs(lab, 1, 2, StackLab.NONE);
        stackIs(lab, 1, 3, StackLab.NONE);
    }

    /** "those with the least distance are looked at", though another stack is shorter and less. */
    private static void takesTheLeastDistance() {
        StackLab lab = new StackLab();
        lab.addRule(0, 1, 1, 2, 5);
        lab.addRule(0, 1, 1, 23, 4);
        stackIs(lab, 1, 2, 23);
        lab.setWeight(1, 6);
        stackIs(lab, 1, 2, 2);
    }

    /** "of these, those whose stacks have the fewest symbols". */
    private static void takesTheFewestSymbolsOfOneDistance() {
        StackLab lab = new StackLab();
        lab.setStart(0, 13);
        lab.addRule(0, 1, 1, 22, 4);
        lab.addRule(0, 1, 1, 2, 4);
        stackIs(lab, 1, 2, 23);
        lab.setWeight(1, 5);
        stackIs(lab, 1, 2, 223);
    }

    /** "and of these, the stack that is the least number". */
    private static void takesTheLeastNumberOfOneLength() {
        StackLab lab = new StackLab();
        lab.addRule(0, 1, 1, 23, 4);
        lab.addRule(0, 1, 1, 22, 4);
        stackIs(lab, 1, 2, 22);
        lab.setWeight(1, 5);
        stackIs(lab, 1, 2, 23);
        lab.begin(2, 5);
        lab.setStart(0, 11);
        lab.addRule(0, 1, 0, 34, 1);
        lab.addRule(0, 1, 0, 35, 1);
        lab.addRule(0, 3, 1, 25, 2);
        lab.addRule(0, 3, 1, 22, 2);
        stackIs(lab, 1, 2, 2241);
    }

    private static void tellsWhatIsBelow() {
        StackLab lab = Labs.removing();
        stackIs(lab, 0, 2, 223);
        stackIs(lab, 1, 2, 23);
        stackIs(lab, 0, 3, 3);
    }

    /** Each pair of a state and a symbol can be what a push puts on top, and what others come from. */
    private static void goesThroughEachNode() {
        for (int q = 0; q < 4; q++) {
            for (int y = 1; y <= 5; y++) {
                StackLab lab = Labs.pushingTo(q, y);
                stackIs(lab, q, y, y * 100 + 24);
                stackIs(lab, (q + 2) % 4, 1, 124);
                stackIs(lab, (q + 3) % 4, 2, 24);
            }
        }
    }

    /** What lies below one pair with the same distance is no stack of another. */
    private static void mixesNoNodes() {
        StackLab lab = new StackLab();
        lab.setStart(1, 23);
        lab.addRule(1, 2, 0, 11, 1);
        lab.addRule(1, 2, 1, 33, 1);
        lab.addRule(1, 2, 1, 12, 1);
        stackIs(lab, 0, 1, 113);
        stackIs(lab, 1, 1, 123);
        stackIs(lab, 1, 3, 333);
    }

    /** "NONE .. if the fewest symbols are more than 6". */
    private static void tellsAtMost6Symbols() {
        StackLab lab = new StackLab();
        lab.begin(4, 2);
        lab.addRule(0, 1, 1, 11, 1);
        lab.addRule(1, 1, 2, 12, 1);
        lab.addRule(2, 1, 3, 11, 1);
        lab.setStart(0, 122);
        stackIs(lab, 2, 1, 12122);
        stackIs(lab, 3, 1, 112122);
        lab.setStart(0, 1222);
        stackIs(lab, 2, 1, 121222);
        stackIs(lab, 3, 1, StackLab.NONE);
        stackIs(Labs.climbing(111), 3, 1, 111111);
        stackIs(Labs.climbing(1111), 3, 1, StackLab.NONE);
    }

    /** A stack of 7 symbols with the least distance hides a shorter one with a greater distance. */
    private static void tellsNoLongerStackInPlaceOfAHeavierOne() {
        StackLab lab = Labs.climbing(1111);
        lab.addRule(0, 1, 3, 1, 4);
        stackIs(lab, 3, 1, StackLab.NONE);
        lab.setWeight(3, 3);
        stackIs(lab, 3, 1, 1111);
    }

    /** "Only runs whose weight is at most 1000000 are considered." */
    private static void endsAtTheLimit() {
        stackIs(Limit.toBelow(999999), 0, 5, 5);
        stackIs(Limit.toBelow(1000000), 0, 5, 5);
        stackIs(Limit.toBelow(1000001), 0, 5, StackLab.NONE);
    }

    private static void followsChanges() {
        StackLab lab = new StackLab();
        stackIs(lab, 1, 2, StackLab.NONE);
        lab.addRule(0, 1, 1, 2, 6);
        stackIs(lab, 1, 2, 2);
        lab.setStart(0, 13);
        stackIs(lab, 1, 2, 23);
        lab.undo();
        stackIs(lab, 1, 2, 2);
        lab.removeRule(0);
        stackIs(lab, 1, 2, StackLab.NONE);
    }
}
