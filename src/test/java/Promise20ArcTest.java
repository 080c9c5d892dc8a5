/** Promise 20: arc. */
final class Promise20ArcTest {
    private static final Checks CHECKS = new Checks("promise 20, arc");
    private static final int LEAST = Integer.MIN_VALUE;
    private static final int MOST = Integer.MAX_VALUE;

    private Promise20ArcTest() {
    }

    public static void main(String[] args) {
        takesIndexesFrom0();
        isNoneBeyondTheLastArc();
        takesWhatFrom0To3();
        reportsTheFirstError();
        tellsTheStartStack();
        ordersByFirstNodeLabelAndSecondNode();
        tellsAllKindsOfRules();
        tellsTheNodesOfTheLastPairs();
        tellsTheLeastWeights();
        endsAtTheLimit();
        keepsTheArcWithTheWeight0BeyondTheLimit();
        followsChanges();
        CHECKS.end();
    }

    private static void machineIs(StackLab lab, int[][] arcs) {
        for (int k = 0; k <= arcs.length; k++) {
            for (int what = 0; what < 4; what++) {
                CHECKS.due("arc(" + k + ", " + what + ")", lab.arc(k, what),
                        k < arcs.length ? arcs[k][what] : StackLab.NONE);
            }
        }
    }

    /** "k: the index of the arc, 0 or more". */
    private static void takesIndexesFrom0() {
        CHECKS.due("arc(0, 2)", Labs.used().arc(0, 2), 31);
        for (int k : new int[] {-1, -2, LEAST}) {
            CHECKS.refused("arc(" + k + ", 0)", StackLab.BAD_VALUE, Labs::used, lab -> lab.arc(k, 0));
        }
    }

    /** "NONE if there are not so many arcs". */
    private static void isNoneBeyondTheLastArc() {
        for (int start : new int[] {1, 12, 123, 1231}) {
            StackLab lab = new StackLab();
            lab.setStart(0, start);
            int arcs = lab.arcs();
            CHECKS.due("the second node of the last arc", lab.arc(arcs - 1, 2), 30 + arcs);
            for (int what = 0; what < 4; what++) {
                for (int k : new int[] {arcs, arcs + 1, 503, 504, 505, MOST - 1, MOST}) {
                    CHECKS.due("arc(" + k + ", " + what + ")", lab.arc(k, what), StackLab.NONE);
                }
            }
        }
    }

    /** "what: 0 its first node, 1 its label, 2 its second node, 3 its weight". */
    private static void takesWhatFrom0To3() {
        StackLab lab = new StackLab();
        lab.setStart(1, 3);
        machineIs(lab, new int[][] {{1, 3, 31, 0}});
        for (int what : new int[] {-1, 4, LEAST, MOST}) {
            CHECKS.refused("arc(0, " + what + ")", StackLab.BAD_VALUE, Labs::used, l -> l.arc(0, what));
        }
    }

    /** "NONE is reported only if no error applies". */
    private static void reportsTheFirstError() {
        for (int what : new int[] {-1, 4}) {
            for (int k : new int[] {-1, 1, MOST}) {
                CHECKS.due("arc(" + k + ", " + what + ")", new StackLab().arc(k, what), StackLab.BAD_VALUE);
            }
        }
    }

    /** "from the start state to 31, from 31 to 32, and so on", up to 34. */
    private static void tellsTheStartStack() {
        StackLab lab = new StackLab();
        machineIs(lab, new int[][] {{0, 1, 31, 0}});
        lab.setStart(1, 3221);
        machineIs(lab, new int[][] {{1, 3, 31, 0}, {31, 2, 32, 0}, {32, 2, 33, 0}, {33, 1, 34, 0}});
    }

    /** "Arcs are ordered by their first nodes, those with the same by their labels, and .. second nodes." */
    private static void ordersByFirstNodeLabelAndSecondNode() {
        StackLab lab = new StackLab();
        lab.addRule(0, 1, 1, 33, 9);
        lab.addRule(0, 1, 1, 31, 8);
        lab.addRule(0, 1, 1, 12, 7);
        lab.addRule(0, 1, 1, 3, 6);
        lab.addRule(0, 1, 1, 0, 5);
        lab.addRule(0, 1, 0, 33, 4);
        machineIs(lab, new int[][] {{0, 1, 31, 0}, {0, 3, 12, 0}, {1, 0, 31, 5}, {1, 1, 15, 0}, {1, 3, 17, 0},
            {1, 3, 31, 6}, {12, 3, 31, 4}, {15, 2, 31, 7}, {17, 1, 31, 8}, {17, 3, 31, 9}});
    }

    /** The swap of 2 to itself makes an arc, since 2 is read over an arc with the label 0. */
    private static void tellsAllKindsOfRules() {
        StackLab lab = new StackLab();
        lab.begin(1, 2);
        lab.setStart(0, 12);
        lab.addRule(0, 1, 0, 0, 2);
        lab.addRule(0, 2, 0, 2, 3);
        lab.addRule(0, 2, 0, 11, 4);
        machineIs(lab, new int[][] {{0, 0, 10, 2}, {0, 0, 31, 2}, {0, 0, 32, 10}, {0, 1, 10, 0}, {0, 1, 31, 0},
            {0, 2, 32, 5}, {10, 1, 32, 6}, {31, 2, 32, 0}});
    }

    /** "for each state q and symbol Y the node 10 + 5 * q + Y - 1": from 10 up to 29. */
    private static void tellsTheNodesOfTheLastPairs() {
        machineIs(Labs.lastPairs(), Labs.LAST_PAIRS);
    }

    /** "each has the least of the weights with which it follows", in whatever order the rules are. */
    private static void tellsTheLeastWeights() {
        StackLab lab = new StackLab();
        lab.addRule(0, 1, 1, 23, 9);
        lab.addRule(0, 1, 0, 3, 2);
        lab.addRule(0, 3, 1, 23, 4);
        machineIs(lab, new int[][] {{0, 1, 31, 0}, {0, 3, 31, 2}, {1, 2, 16, 0}, {16, 3, 31, 6}});
        lab.setWeight(0, 5);
        machineIs(lab, new int[][] {{0, 1, 31, 0}, {0, 3, 31, 2}, {1, 2, 16, 0}, {16, 3, 31, 5}});
        lab.addRule(0, 3, 0, 1, 1);
        machineIs(lab, new int[][] {{0, 1, 31, 0}, {0, 3, 31, 2}, {1, 2, 16, 0}, {16, 3, 31, 5}});
    }

    private static void machineIsThatOf(Reference system) {
        int[][] arcs = system.arcs().toArray(new int[0][]);
        for (int what = 0; what < 4; what++) {
            StackLab lab = system.makeLab();
            for (int k = 0; k <= arcs.length; k++) {
                CHECKS.due("arc(" + k + ", " + what + ")", lab.arc(k, what),
                        k < arcs.length ? arcs[k][what] : StackLab.NONE);
            }
        }
    }

    /** "no arc with a weight above 1000000 follows". */
    private static void endsAtTheLimit() {
        for (int weight = 999999; weight <= 1000001; weight++) {
            machineIsThatOf(Limit.reference(weight, 45));
        }
    }

    /** At 1000000 the push from 5 makes the arc from 3 to 29, but none from 29 to 32. */
    private static void keepsTheArcWithTheWeight0BeyondTheLimit() {
        for (int weight = 999999; weight <= 1000001; weight++) {
            Reference system = Limit.reference(weight, 45);
            system.rules.add(new int[] {0, 5, 3, 54, 1});
            machineIsThatOf(system);
        }
    }

    private static void followsChanges() {
        StackLab lab = new StackLab();
        lab.addRule(0, 1, 1, 0, 5);
        machineIs(lab, new int[][] {{0, 1, 31, 0}, {1, 0, 31, 5}});
        lab.setWeight(0, 6);
        machineIs(lab, new int[][] {{0, 1, 31, 0}, {1, 0, 31, 6}});
        lab.setStart(0, 12);
        machineIs(lab, new int[][] {{0, 1, 31, 0}, {1, 0, 31, 6}, {31, 2, 32, 0}});
        lab.undo();
        lab.undo();
        machineIs(lab, new int[][] {{0, 1, 31, 0}, {1, 0, 31, 5}});
        lab.begin(2, 3);
        machineIs(lab, new int[][] {{0, 1, 31, 0}});
        lab.addRule(0, 1, 0, 12, 3);
        int[][] arcs = {{0, 1, 10, 0}, {0, 1, 31, 0}, {10, 2, 10, 3}, {10, 2, 31, 3}};
        machineIs(lab, arcs);
        lab.setStart(0, 1);
        machineIs(lab, arcs);
    }
}
