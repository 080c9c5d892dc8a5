/** Promise 18: wordPrice. */
final class Promise18WordPriceTest {
    private static final Checks CHECKS = new Checks("promise 18, wordPrice");
    private static final Names NAMES = new Names(CHECKS, "wordPrice");

    private Promise18WordPriceTest() {
    }

    public static void main(String[] args) {
        NAMES.states((lab, p) -> lab.wordPrice(p, 1, 0));
        NAMES.words(0, 6, (lab, word) -> lab.wordPrice(0, word, 0));
        NAMES.states((lab, q) -> lab.wordPrice(0, 1, q));
        NAMES.states((lab, p) -> lab.wordPrice(p, 0, 0));
        NAMES.states((lab, q) -> lab.wordPrice(0, 0, q));
        isZeroForTheEmptyWord();
        isThePriceOfOneSymbol();
        goesThroughTheBestStates();
        isNoneWithoutARun();
        removes6Symbols();
        endsAtTheLimit();
        addsUpToTheLimit();
        followsChanges();
        CHECKS.end();
    }

    private static void priceIs(StackLab lab, int p, int word, int q, int want) {
        CHECKS.due("wordPrice(" + p + ", " + word + ", " + q + ")", lab.wordPrice(p, word, q), want);
    }

    /** "word: a word, of 0 to 6 symbols": the empty run removes the empty word, and changes no state. */
    private static void isZeroForTheEmptyWord() {
        StackLab lab = new StackLab();
        lab.addRule(0, 1, 1, 0, 1);
        priceIs(lab, 0, 0, 0, 0);
        priceIs(lab, 1, 0, 1, 0);
        priceIs(lab, 0, 0, 1, StackLab.NONE);
        priceIs(lab, 1, 0, 0, StackLab.NONE);
    }

    private static void isThePriceOfOneSymbol() {
        StackLab lab = new StackLab();
        lab.begin(3, 3);
        lab.addRule(0, 1, 1, 23, 1);
        lab.addRule(1, 2, 0, 0, 2);
        lab.addRule(1, 2, 2, 0, 5);
        lab.addRule(2, 3, 1, 0, 3);
        for (int p = 0; p < 3; p++) {
            for (int x = 1; x <= 3; x++) {
                for (int q = 0; q < 3; q++) {
                    priceIs(lab, p, x, q, lab.price(p, x, q));
                }
            }
        }
        priceIs(lab, 0, 1, 1, 9);
    }

    /** "the least weight of a run", over all states in which the symbols between may be left. */
    private static void goesThroughTheBestStates() {
        StackLab lab = new StackLab();
        lab.addRule(0, 1, 1, 0, 3);
        lab.addRule(1, 1, 0, 0, 5);
        lab.addRule(0, 2, 0, 0, 7);
        lab.addRule(0, 1, 0, 0, 10);
        priceIs(lab, 0, 11, 0, 8);
        priceIs(lab, 0, 11, 1, 13);
        priceIs(lab, 0, 12, 0, 17);
        priceIs(lab, 0, 21, 1, 10);
    }

    /** "NONE if there is no such run". */
    private static void isNoneWithoutARun() {
        StackLab lab = new StackLab();
        lab.addRule(0, 1, 1, 0, 3);
        lab.addRule(0, 2, 0, 0, 7);
        priceIs(lab, 0, 21, 1, 10);
        priceIs(lab, 0, 21, 0, StackLab.NONE);
        priceIs(lab, 1, 21, 1, StackLab.NONE);
        priceIs(lab, 0, 12, 1, StackLab.NONE);
        priceIs(lab, 0, 31, 1, StackLab.NONE);
        priceIs(lab, 0, 23, 1, StackLab.NONE);
    }

    private static void removes6Symbols() {
        StackLab lab = new StackLab();
        lab.addRule(0, 1, 1, 0, 3);
        lab.addRule(1, 1, 0, 0, 5);
        priceIs(lab, 0, 111111, 0, 24);
        priceIs(lab, 1, 111111, 1, 24);
        priceIs(lab, 0, 111111, 1, StackLab.NONE);
        priceIs(lab, 0, 1111111, 1, StackLab.BAD_NAME);
    }

    /** "Only runs whose weight is at most 1000000 are considered." */
    private static void endsAtTheLimit() {
        for (int weight : new int[] {999999, 1000000}) {
            priceIs(Limit.toBelow(weight), 1, 4, 0, weight);
        }
        for (int weight : new int[] {1000001, 1000002}) {
            priceIs(Limit.toBelow(weight), 1, 4, 0, StackLab.NONE);
        }
    }

    /** The whole run counts, though each symbol costs far less than 1000000. */
    private static void addsUpToTheLimit() {
        for (int weight = 999998; weight <= 1000003; weight++) {
            Reference system = Limit.referenceOfSix(weight);
            int due = weight <= 1000000 ? weight : StackLab.NONE;
            priceIs(system.makeLab(), 0, Limit.SIX, 0, due);
            CHECKS.due("the reference's price", system.wordPrice(0, Limit.SIX, 0), due);
        }
    }

    private static void followsChanges() {
        StackLab lab = new StackLab();
        priceIs(lab, 0, 11, 0, StackLab.NONE);
        lab.addRule(0, 1, 0, 0, 2);
        priceIs(lab, 0, 11, 0, 4);
        CHECKS.due("distanceWithout(0, 0, 0)", lab.distanceWithout(0, 0, 0), StackLab.NONE);
        CHECKS.due("distance(0, 0)", lab.distance(0, 0), 2);
        priceIs(lab, 0, 11, 0, 4);
        lab.setStart(1, 3333);
        priceIs(lab, 0, 11, 0, 4);
        lab.setWeight(0, 20);
        priceIs(lab, 0, 11, 0, 40);
    }
}
