/** Promise 17: price. */
final class Promise17PriceTest {
    private static final Checks CHECKS = new Checks("promise 17, price");
    private static final Names NAMES = new Names(CHECKS, "price");

    private Promise17PriceTest() {
    }

    public static void main(String[] args) {
        NAMES.states((lab, p) -> lab.price(p, 1, 0));
        NAMES.symbols((lab, x) -> lab.price(0, x, 0));
        NAMES.states((lab, q) -> lab.price(0, 1, q));
        isLeastOverAllRuns();
        isNoneWithoutARun();
        isNeverZero();
        removesBothSymbolsOfAPush();
        removesNothingBelow();
        mindsNoStart();
        endsAtTheLimit();
        followsChanges();
        CHECKS.end();
    }

    private static void priceIs(StackLab lab, int p, int x, int q, int want) {
        CHECKS.due("price(" + p + ", " + x + ", " + q + ")", lab.price(p, x, q), want);
    }

    /** "The price of removing X from p to q is the least weight of a run". */
    private static void isLeastOverAllRuns() {
        StackLab lab = new StackLab();
        lab.addRule(0, 1, 0, 2, 3);
        lab.addRule(0, 2, 1, 0, 4);
        lab.addRule(0, 1, 1, 0, 8);
        priceIs(lab, 0, 1, 1, 7);
        priceIs(lab, 0, 2, 1, 4);
        lab.setWeight(2, 7);
        priceIs(lab, 0, 1, 1, 7);
        lab.setWeight(2, 6);
        priceIs(lab, 0, 1, 1, 6);
    }

    /** "NONE if there is no such run". */
    private static void isNoneWithoutARun() {
        StackLab lab = Labs.used();
        for (int p = 0; p < 2; p++) {
            for (int x = 1; x <= 3; x++) {
                for (int q = 0; q < 2; q++) {
                    priceIs(lab, p, x, q, p == 0 && x == 2 && q == 1 ? 4 : StackLab.NONE);
                }
            }
        }
    }

    /** There is a symbol to remove, so a rule must be applied, also if p is q. */
    private static void isNeverZero() {
        StackLab lab = new StackLab();
        priceIs(lab, 0, 1, 0, StackLab.NONE);
        lab.addRule(0, 1, 0, 0, 1);
        priceIs(lab, 0, 1, 0, 1);
        priceIs(lab, 1, 1, 1, StackLab.NONE);
    }

    /** "to the one with the state q and the empty stack": the second symbol goes from where the first left. */
    private static void removesBothSymbolsOfAPush() {
        StackLab lab = new StackLab();
        lab.begin(3, 3);
        lab.addRule(0, 1, 1, 23, 1);
        lab.addRule(1, 2, 0, 0, 2);
        lab.addRule(1, 2, 2, 0, 5);
        lab.addRule(2, 3, 1, 0, 3);
        priceIs(lab, 0, 1, 1, 9);
        priceIs(lab, 0, 1, 0, StackLab.NONE);
        lab.addRule(0, 3, 1, 0, 5);
        priceIs(lab, 0, 1, 1, 8);
        lab.addRule(0, 3, 0, 13, 1);
        priceIs(lab, 0, 3, 1, 5);
        priceIs(lab, 0, 1, 1, 8);
    }

    /** A run ends when the symbol is gone, since no rule applies to the empty stack. */
    private static void removesNothingBelow() {
        StackLab lab = new StackLab();
        lab.setStart(0, 12);
        lab.addRule(0, 1, 0, 0, 1);
        lab.addRule(0, 2, 1, 0, 1);
        priceIs(lab, 0, 1, 0, 1);
        priceIs(lab, 0, 1, 1, StackLab.NONE);
    }

    private static void mindsNoStart() {
        StackLab lab = new StackLab();
        lab.addRule(0, 2, 1, 0, 4);
        lab.setStart(1, 3333);
        priceIs(lab, 0, 2, 1, 4);
    }

    /** "Only runs whose weight is at most 1000000 are considered." */
    private static void endsAtTheLimit() {
        for (int weight : new int[] {999999, 1000000}) {
            priceIs(Limit.toBelow(weight), 1, 4, 0, weight);
        }
        for (int weight : new int[] {1000001, 1000002}) {
            priceIs(Limit.toBelow(weight), 1, 4, 0, StackLab.NONE);
        }
    }

    private static void followsChanges() {
        StackLab lab = new StackLab();
        priceIs(lab, 0, 1, 0, StackLab.NONE);
        lab.addRule(0, 1, 0, 0, 2);
        priceIs(lab, 0, 1, 0, 2);
        CHECKS.due("distanceWithout(0, 0, 0)", lab.distanceWithout(0, 0, 0), StackLab.NONE);
        priceIs(lab, 0, 1, 0, 2);
        lab.setWeight(0, 20);
        priceIs(lab, 0, 1, 0, 20);
        lab.undo();
        lab.undo();
        priceIs(lab, 0, 1, 0, StackLab.NONE);
    }
}
