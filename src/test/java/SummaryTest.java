/** Promises 17 and 18: what it costs to remove a symbol or a word. */
final class SummaryTest {
    private static final int BAD_NAME = -1;
    private static final int NONE = -6;

    private static final Checks CHECKS = new Checks();

    private SummaryTest() {
    }

    public static void main(String[] args) {
        price();
        priceOfPushes();
        wordPrice();
        badNames();
        answersFollowChanges();
        CHECKS.end();
    }

    private static void priceIs(StackLab lab, int p, int x, int q, int want) {
        CHECKS.due("price(" + p + ", " + x + ", " + q + ")", lab.price(p, x, q), want);
        CHECKS.due("wordPrice(" + p + ", " + x + ", " + q + ")", lab.wordPrice(p, x, q), want);
    }

    private static void price() {
        StackLab lab = new StackLab();
        lab.addRule(0, 1, 0, 2, 3);
        lab.addRule(0, 2, 1, 0, 4);
        lab.addRule(0, 1, 1, 0, 9);
        priceIs(lab, 0, 1, 1, 7);
        priceIs(lab, 0, 2, 1, 4);
        priceIs(lab, 0, 1, 0, NONE);
        priceIs(lab, 1, 1, 1, NONE);
        priceIs(lab, 0, 3, 0, NONE);
        lab.setWeight(2, 6);
        priceIs(lab, 0, 1, 1, 6);
        lab.setStart(1, 333);
        priceIs(lab, 0, 1, 1, 6);
    }

    /** Both symbols of a push must go, and the second one from where the first one left. */
    private static void priceOfPushes() {
        StackLab lab = new StackLab();
        lab.begin(3, 3);
        lab.addRule(0, 1, 1, 23, 1);
        lab.addRule(1, 2, 0, 0, 2);
        lab.addRule(1, 2, 2, 0, 5);
        lab.addRule(2, 3, 1, 0, 3);
        priceIs(lab, 0, 1, 1, 9);
        priceIs(lab, 0, 1, 0, NONE);
        lab.addRule(0, 3, 1, 0, 5);
        priceIs(lab, 0, 1, 1, 8);
        lab.addRule(0, 3, 0, 13, 1);
        priceIs(lab, 0, 3, 1, 5);
        priceIs(lab, 0, 1, 1, 8);
    }

    private static void wordPrice() {
        StackLab lab = new StackLab();
        lab.addRule(0, 1, 1, 0, 3);
        lab.addRule(1, 1, 0, 0, 5);
        lab.addRule(0, 2, 0, 0, 7);
        lab.addRule(0, 1, 0, 0, 10);
        CHECKS.due("wordPrice(0, 0, 0)", lab.wordPrice(0, 0, 0), 0);
        CHECKS.due("wordPrice(1, 0, 1)", lab.wordPrice(1, 0, 1), 0);
        CHECKS.due("wordPrice(0, 0, 1)", lab.wordPrice(0, 0, 1), NONE);
        CHECKS.due("wordPrice(0, 11, 0)", lab.wordPrice(0, 11, 0), 8);
        CHECKS.due("wordPrice(0, 11, 1)", lab.wordPrice(0, 11, 1), 13);
        CHECKS.due("wordPrice(0, 12, 0)", lab.wordPrice(0, 12, 0), 17);
        CHECKS.due("wordPrice(0, 21, 1)", lab.wordPrice(0, 21, 1), 10);
        CHECKS.due("wordPrice(1, 21, 1)", lab.wordPrice(1, 21, 1), NONE);
        CHECKS.due("wordPrice(0, 31, 0)", lab.wordPrice(0, 31, 0), NONE);
        CHECKS.due("wordPrice(0, 111111, 0)", lab.wordPrice(0, 111111, 0), 24);
        CHECKS.due("wordPrice(1, 111111, 0)", lab.wordPrice(1, 111111, 0), 31);
    }

    private static void badNames() {
        StackLab lab = new StackLab();
        int[][] wrong = {{-1, 1, 0}, {2, 1, 0}, {0, -1, 0}, {0, 4, 0}, {0, 1, -1}, {0, 1, 2},
            {Integer.MIN_VALUE, 1, 0}, {0, Integer.MIN_VALUE, 0}, {0, 1, Integer.MIN_VALUE},
            {Integer.MAX_VALUE, 1, 0}, {0, Integer.MAX_VALUE, 0}, {0, 1, Integer.MAX_VALUE}};
        for (int[] call : wrong) {
            priceIs(lab, call[0], call[1], call[2], BAD_NAME);
        }
        CHECKS.due("price(0, 0, 0)", lab.price(0, 0, 0), BAD_NAME);
        CHECKS.due("price(0, 11, 0)", lab.price(0, 11, 0), BAD_NAME);
        CHECKS.due("wordPrice(0, 1111111, 0)", lab.wordPrice(0, 1111111, 0), BAD_NAME);
        CHECKS.due("wordPrice(0, 10, 0)", lab.wordPrice(0, 10, 0), BAD_NAME);
        CHECKS.due("wordPrice(0, 0, 2)", lab.wordPrice(0, 0, 2), BAD_NAME);
        CHECKS.due("wordPrice(2, 0, 0)", lab.wordPrice(2, 0, 0), BAD_NAME);
    }

    private static void answersFollowChanges() {
        StackLab lab = new StackLab();
        priceIs(lab, 0, 1, 0, NONE);
        lab.addRule(0, 1, 0, 0, 2);
        priceIs(lab, 0, 1, 0, 2);
        CHECKS.due("distanceWithout(0, 0, 0)", lab.distanceWithout(0, 0, 0), NONE);
        priceIs(lab, 0, 1, 0, 2);
        lab.undo();
        priceIs(lab, 0, 1, 0, NONE);
    }
}
