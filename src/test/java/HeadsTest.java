/** Promises 14 to 16: the nearest configurations with a state and a symbol on top. */
final class HeadsTest {
    private static final int BAD_NAME = -1;
    private static final int NONE = -6;

    private static final Checks CHECKS = new Checks();

    private HeadsTest() {
    }

    public static void main(String[] args) {
        ordinary();
        leastDistanceFirst();
        fewestSymbolsThen();
        leastNumberThen();
        belowAreOtherHeads();
        tallStacks();
        badNames();
        answersFollowChanges();
        CHECKS.end();
    }

    private static void headIs(StackLab lab, int p, int x, int distance, int stack) {
        CHECKS.due("headDistance(" + p + ", " + x + ")", lab.headDistance(p, x), distance);
        CHECKS.due("nearestStack(" + p + ", " + x + ")", lab.nearestStack(p, x), stack);
    }

    private static void ordinary() {
        StackLab lab = new StackLab();
        lab.setStart(0, 12);
        lab.addRule(0, 1, 1, 31, 4);
        lab.addRule(1, 3, 0, 0, 2);
        lab.addRule(0, 1, 0, 0, 9);
        headIs(lab, 0, 1, 0, 12);
        headIs(lab, 1, 3, 4, 312);
        headIs(lab, 0, 2, 9, 2);
        headIs(lab, 0, 3, NONE, NONE);
        headIs(lab, 1, 1, NONE, NONE);
        CHECKS.due("heads()", lab.heads(), 3);
    }

    /** The lighter stack is taken though it is longer and greater. */
    private static void leastDistanceFirst() {
        StackLab lab = new StackLab();
        lab.addRule(0, 1, 1, 2, 5);
        lab.addRule(0, 1, 1, 23, 4);
        headIs(lab, 1, 2, 4, 23);
    }

    private static void fewestSymbolsThen() {
        StackLab lab = new StackLab();
        lab.setStart(0, 13);
        lab.addRule(0, 1, 1, 22, 4);
        lab.addRule(0, 1, 1, 2, 4);
        headIs(lab, 1, 2, 4, 23);
    }

    private static void leastNumberThen() {
        StackLab lab = new StackLab();
        lab.addRule(0, 1, 1, 23, 4);
        lab.addRule(0, 1, 1, 22, 4);
        headIs(lab, 1, 2, 4, 22);
        lab.setWeight(1, 5);
        headIs(lab, 1, 2, 4, 23);
        lab.begin(2, 5);
        lab.setStart(0, 11);
        lab.addRule(0, 1, 0, 34, 1);
        lab.addRule(0, 1, 0, 35, 1);
        lab.addRule(0, 3, 1, 25, 2);
        lab.addRule(0, 3, 1, 22, 2);
        headIs(lab, 1, 2, 3, 2241);
    }

    /** The symbol below is reached by the rules for what was above it. */
    private static void belowAreOtherHeads() {
        StackLab lab = new StackLab();
        lab.setStart(0, 1223);
        lab.addRule(0, 1, 0, 0, 1);
        lab.addRule(0, 2, 1, 0, 2);
        lab.addRule(1, 2, 0, 0, 3);
        headIs(lab, 0, 2, 1, 223);
        headIs(lab, 1, 2, 3, 23);
        headIs(lab, 0, 3, 6, 3);
        headIs(lab, 1, 3, NONE, NONE);
        CHECKS.due("heads()", lab.heads(), 4);
    }

    private static void tallStacks() {
        StackLab lab = new StackLab();
        lab.begin(4, 1);
        lab.addRule(0, 1, 1, 11, 1);
        lab.addRule(1, 1, 2, 11, 1);
        lab.addRule(2, 1, 3, 11, 1);
        lab.setStart(0, 111);
        headIs(lab, 3, 1, 3, 111111);
        CHECKS.due("heads()", lab.heads(), 4);
        lab.setStart(0, 1111);
        headIs(lab, 2, 1, 2, 111111);
        headIs(lab, 3, 1, 3, NONE);
        CHECKS.due("heads()", lab.heads(), 4);
    }

    private static void badNames() {
        StackLab lab = new StackLab();
        int[][] wrong = {{-1, 1}, {2, 1}, {0, 0}, {0, 4}, {0, -1}, {Integer.MAX_VALUE, 1}, {0, Integer.MAX_VALUE},
            {Integer.MIN_VALUE, 1}, {0, Integer.MIN_VALUE}, {0, 6}, {0, 11}};
        for (int[] call : wrong) {
            headIs(lab, call[0], call[1], BAD_NAME, BAD_NAME);
        }
        CHECKS.due("heads()", lab.heads(), 1);
    }

    private static void answersFollowChanges() {
        StackLab lab = new StackLab();
        headIs(lab, 1, 2, NONE, NONE);
        lab.addRule(0, 1, 1, 2, 6);
        headIs(lab, 1, 2, 6, 2);
        CHECKS.due("heads()", lab.heads(), 2);
        lab.setStart(1, 2);
        headIs(lab, 1, 2, 0, 2);
        CHECKS.due("heads()", lab.heads(), 1);
        lab.undo();
        lab.setWeight(0, 7);
        headIs(lab, 1, 2, 7, 2);
        lab.removeRule(0);
        headIs(lab, 1, 2, NONE, NONE);
        CHECKS.due("heads()", lab.heads(), 1);
    }
}
