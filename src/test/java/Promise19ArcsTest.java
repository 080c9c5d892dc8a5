/** Promise 19: arcs. */
final class Promise19ArcsTest {
    private static final Checks CHECKS = new Checks("promise 19, arcs");

    private Promise19ArcsTest() {
    }

    public static void main(String[] args) {
        isTheLengthOfTheStartStackWithoutRules();
        countsOneArcForAPopAndASwap();
        countsTwoArcsForAPush();
        countsTheSameArcOnce();
        countsNothingForRulesThatAreNotReached();
        countsManyArcs();
        endsAtTheLimit();
        keepsTheArcWithTheWeight0BeyondTheLimit();
        followsChanges();
        CHECKS.end();
    }

    private static void arcsAre(StackLab lab, int want) {
        CHECKS.due("arcs()", lab.arcs(), want);
    }

    /** "arcs with the weight 0 lead, with the symbols of the start stack as labels": 1 to 4 of them. */
    private static void isTheLengthOfTheStartStackWithoutRules() {
        arcsAre(new StackLab(), 1);
        int[] starts = {3, 11, 321, 1111};
        for (int k = 0; k < 4; k++) {
            StackLab lab = new StackLab();
            lab.setStart(1, starts[k]);
            arcsAre(lab, k + 1);
        }
    }

    private static void countsOneArcForAPopAndASwap() {
        StackLab lab = new StackLab();
        lab.addRule(0, 1, 1, 0, 1);
        arcsAre(lab, 2);
        lab.addRule(0, 1, 1, 3, 1);
        arcsAre(lab, 3);
    }

    private static void countsTwoArcsForAPush() {
        StackLab lab = new StackLab();
        lab.addRule(0, 1, 1, 23, 1);
        arcsAre(lab, 3);
        lab.addRule(0, 1, 1, 22, 1);
        arcsAre(lab, 4);
    }

    /** "so there is at most one arc with the same nodes and label". */
    private static void countsTheSameArcOnce() {
        StackLab lab = new StackLab();
        lab.addRule(0, 1, 0, 2, 1);
        lab.addRule(0, 1, 1, 0, 9);
        arcsAre(lab, 3);
        lab.addRule(0, 2, 1, 0, 1);
        arcsAre(lab, 3);
        lab.addRule(0, 2, 0, 2, 1);
        arcsAre(lab, 3);
        lab.addRule(0, 2, 0, 1, 1);
        arcsAre(lab, 3);
    }

    private static void countsNothingForRulesThatAreNotReached() {
        StackLab lab = new StackLab();
        lab.addRule(1, 1, 0, 22, 1);
        lab.addRule(0, 2, 0, 0, 1);
        lab.addRule(0, 3, 0, 1, 1);
        arcsAre(lab, 1);
        lab.setStart(0, 11);
        arcsAre(lab, 2);
    }

    /** All that can be read is read: a few rules for each kind, over all 20 pairs. */
    private static void countsManyArcs() {
        for (int seed = 0; seed < 40; seed++) {
            Reference system = new Reference(4, 5, Limit.WEIGHT);
            for (int k = 0; k < 20; k++) {
                int word = k % 5 == seed % 5 ? 0 : 11 + 10 * (k * 7 % 5) + (k * 3 + seed) % 5;
                int[] rule = {k % 4, 1 + k / 4, (k * (seed % 3 + 1) + seed) % 4, word, 1 + k};
                system.rules.add(rule);
            }
            system.startState = seed % 4;
            system.start = new int[] {1, 2, 3, 4};
            arcsAre(system.makeLab(), system.arcs().size());
        }
    }

    /** "no arc with a weight above 1000000 follows". */
    private static void endsAtTheLimit() {
        for (int weight = 999998; weight <= 1000002; weight++) {
            Reference system = Limit.reference(weight, 45);
            arcsAre(system.makeLab(), system.arcs().size());
        }
        arcsAre(Limit.toBelow(1000000), 262);
        arcsAre(Limit.toBelow(1000001), 260);
    }

    /**
     * A push follows for each node up to which X is read "with a weight d of at most 1000000": its arc
     * with the weight 0 does so at 1000000, too, where its other arc is too heavy.
     */
    private static void keepsTheArcWithTheWeight0BeyondTheLimit() {
        int without = Limit.toBelow(1000000).arcs();
        int[] weights = {999999, 1000000, 1000001};
        for (int weight : weights) {
            Reference system = Limit.reference(weight, 45);
            system.rules.add(new int[] {0, 5, 3, 54, 1});
            arcsAre(system.makeLab(), system.arcs().size());
        }
        StackLab lab = Limit.toBelow(1000000);
        lab.addRule(0, 5, 3, 54, 1);
        CHECKS.dueTrue("there are more arcs", lab.arcs() > without);
    }

    private static void followsChanges() {
        StackLab lab = new StackLab();
        arcsAre(lab, 1);
        lab.addRule(0, 1, 1, 0, 5);
        arcsAre(lab, 2);
        lab.setStart(0, 12);
        arcsAre(lab, 3);
        lab.begin(2, 3);
        arcsAre(lab, 1);
        lab.undo();
        arcsAre(lab, 3);
        lab.removeRule(0);
        arcsAre(lab, 2);
    }
}
