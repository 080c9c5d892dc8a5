/** Promise 16: heads. */
final class Promise16HeadsTest {
    private static final Checks CHECKS = new Checks("promise 16, heads");

    private Promise16HeadsTest() {
    }

    public static void main(String[] args) {
        isOneWithoutRules();
        isTwentyAtMost();
        countsWhatHeadDistanceTells();
        countsHeadsOfTallStacks();
        endsAtTheLimit();
        followsChanges();
        CHECKS.end();
    }

    private static void headsAre(StackLab lab, int want) {
        CHECKS.due("heads()", lab.heads(), want);
    }

    /** The start configuration has a symbol on top; those below it are not on top. */
    private static void isOneWithoutRules() {
        headsAre(new StackLab(), 1);
        StackLab lab = new StackLab();
        lab.begin(4, 5);
        lab.setStart(3, 5432);
        headsAre(lab, 1);
        lab.begin(1, 1);
        headsAre(lab, 1);
    }

    /** All pairs of 4 states and 5 symbols, each one a swap away from the one before. */
    private static void isTwentyAtMost() {
        StackLab lab = new StackLab();
        lab.begin(4, 5);
        for (int k = 0; k < 19; k++) {
            headsAre(lab, k + 1);
            lab.addRule(k % 4, 1 + k / 4, (k + 1) % 4, 1 + (k + 1) / 4, 20);
        }
        headsAre(lab, 20);
        lab.addRule(3, 5, 0, 1, 1);
        headsAre(lab, 20);
        lab.removeRule(0);
        headsAre(lab, 1);
    }

    /** "how many pairs of a state and a symbol there are for which headDistance() tells a distance". */
    private static void countsWhatHeadDistanceTells() {
        headsAre(Labs.used(), 4);
        StackLab lab = new StackLab();
        lab.addRule(0, 1, 1, 0, 1);
        headsAre(lab, 1);
        lab.setStart(0, 1223);
        headsAre(lab, 2);
    }

    private static void countsHeadsOfTallStacks() {
        headsAre(Labs.climbing(1111), 4);
    }

    /** "Only runs whose weight is at most 1000000 are considered." */
    private static void endsAtTheLimit() {
        headsAre(Limit.toBelow(999999), 20);
        headsAre(Limit.toBelow(1000000), 20);
        headsAre(Limit.toBelow(1000001), 19);
    }

    private static void followsChanges() {
        StackLab lab = new StackLab();
        headsAre(lab, 1);
        lab.addRule(0, 1, 1, 2, 6);
        headsAre(lab, 2);
        lab.setStart(1, 2);
        headsAre(lab, 1);
        lab.undo();
        headsAre(lab, 2);
        lab.removeRule(0);
        headsAre(lab, 1);
    }
}
