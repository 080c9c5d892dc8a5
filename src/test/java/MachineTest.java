/** Promises 19 to 21: the machine. */
final class MachineTest {
    private static final int BAD_VALUE = -2;
    private static final int NONE = -6;
    private static final int LEAST = Integer.MIN_VALUE;
    private static final int MOST = Integer.MAX_VALUE;

    private static final Checks CHECKS = new Checks();

    private MachineTest() {
    }

    public static void main(String[] args) {
        startStackAlone();
        allKindsOfRules();
        nodesOfLastHeads();
        weightsOfPushesAreLeast();
        unreachedRules();
        badValues();
        arcWeightOfNothing();
        answersFollowChanges();
        CHECKS.end();
    }

    private static void machineIs(StackLab lab, int[][] arcs) {
        CHECKS.due("arcs()", lab.arcs(), arcs.length);
        for (int k = 0; k <= arcs.length; k++) {
            for (int what = 0; what < 4; what++) {
                int want = k < arcs.length ? arcs[k][what] : NONE;
                CHECKS.due("arc(" + k + ", " + what + ")", lab.arc(k, what), want);
            }
        }
        for (int[] arc : arcs) {
            CHECKS.due("arcWeight(" + arc[0] + ", " + arc[1] + ", " + arc[2] + ")",
                    lab.arcWeight(arc[0], arc[1], arc[2]), arc[3]);
        }
    }

    private static void startStackAlone() {
        StackLab lab = new StackLab();
        machineIs(lab, new int[][] {{0, 1, 31, 0}});
        lab.setStart(1, 3221);
        machineIs(lab, new int[][] {{1, 3, 31, 0}, {31, 2, 32, 0}, {32, 2, 33, 0}, {33, 1, 34, 0}});
    }

    /** The swap of 2 to itself makes an arc, since 2 is read over an arc with the label 0. */
    private static void allKindsOfRules() {
        StackLab lab = new StackLab();
        lab.begin(1, 2);
        lab.setStart(0, 12);
        lab.addRule(0, 1, 0, 0, 2);
        lab.addRule(0, 2, 0, 2, 3);
        lab.addRule(0, 2, 0, 11, 4);
        machineIs(lab, new int[][] {{0, 0, 10, 2}, {0, 0, 31, 2}, {0, 0, 32, 10}, {0, 1, 10, 0}, {0, 1, 31, 0},
            {0, 2, 32, 5}, {10, 1, 32, 6}, {31, 2, 32, 0}});
    }

    private static void nodesOfLastHeads() {
        StackLab lab = new StackLab();
        lab.begin(4, 5);
        lab.setStart(3, 5);
        lab.addRule(3, 5, 3, 51, 7);
        lab.addRule(3, 5, 2, 45, 8);
        machineIs(lab, new int[][] {{2, 4, 23, 0}, {3, 5, 29, 0}, {3, 5, 31, 0}, {23, 5, 29, 8}, {23, 5, 31, 8},
            {29, 1, 29, 7}, {29, 1, 31, 7}});
    }

    /** Two rules make the same arc from a head's node; the lighter one counts, in either order. */
    private static void weightsOfPushesAreLeast() {
        StackLab lab = new StackLab();
        lab.addRule(0, 1, 1, 23, 9);
        lab.addRule(0, 1, 0, 3, 2);
        lab.addRule(0, 3, 1, 23, 4);
        machineIs(lab, new int[][] {{0, 1, 31, 0}, {0, 3, 31, 2}, {1, 2, 16, 0}, {16, 3, 31, 6}});
        lab.setWeight(0, 5);
        CHECKS.due("arcWeight(16, 3, 31)", lab.arcWeight(16, 3, 31), 5);
    }

    private static void unreachedRules() {
        StackLab lab = new StackLab();
        lab.addRule(1, 1, 0, 22, 1);
        lab.addRule(0, 2, 0, 0, 1);
        lab.addRule(0, 3, 0, 1, 1);
        machineIs(lab, new int[][] {{0, 1, 31, 0}});
    }

    private static void badValues() {
        StackLab lab = new StackLab();
        for (int k : new int[] {-1, LEAST}) {
            CHECKS.due("arc(" + k + ", 0)", lab.arc(k, 0), BAD_VALUE);
        }
        for (int what : new int[] {-1, 4, LEAST, MOST}) {
            CHECKS.due("arc(0, " + what + ")", lab.arc(0, what), BAD_VALUE);
            CHECKS.due("arc(9, " + what + ")", lab.arc(9, what), BAD_VALUE);
        }
        CHECKS.due("arc(1, 0)", lab.arc(1, 0), NONE);
        CHECKS.due("arc(MOST, 3)", lab.arc(MOST, 3), NONE);
    }

    private static void arcWeightOfNothing() {
        StackLab lab = new StackLab();
        int[][] nothing = {{0, 1, 0}, {0, 0, 31}, {0, 2, 31}, {1, 1, 31}, {0, 1, 32}, {0, 1, 30}, {0, 1, 35},
            {4, 1, 31}, {9, 1, 31}, {30, 1, 31}, {35, 1, 31}, {31, 1, 32}, {10, 1, 31}, {29, 5, 31}, {0, 6, 31},
            {0, -1, 31}, {-1, 1, 31}, {0, 1, -1}, {LEAST, 1, 31}, {MOST, 1, 31}, {0, LEAST, 31}, {0, MOST, 31},
            {0, 1, LEAST}, {0, 1, MOST}, {3, 5, 34}, {5, 0, 10}};
        for (int[] call : nothing) {
            CHECKS.due("arcWeight(" + call[0] + ", " + call[1] + ", " + call[2] + ")",
                    lab.arcWeight(call[0], call[1], call[2]), NONE);
        }
        CHECKS.due("arcWeight(0, 1, 31)", lab.arcWeight(0, 1, 31), 0);
        lab.addRule(0, 1, 1, 0, 2);
        CHECKS.due("arcWeight(1, 0, 31)", lab.arcWeight(1, 0, 31), 2);
        CHECKS.due("arcWeight(0, 6, 31)", lab.arcWeight(0, 6, 31), NONE);
        CHECKS.due("arcWeight(1, -6, 31)", lab.arcWeight(1, -6, 31), NONE);
    }

    private static void answersFollowChanges() {
        StackLab lab = new StackLab();
        CHECKS.due("arcs()", lab.arcs(), 1);
        lab.addRule(0, 1, 1, 0, 5);
        machineIs(lab, new int[][] {{0, 1, 31, 0}, {1, 0, 31, 5}});
        lab.setWeight(0, 6);
        machineIs(lab, new int[][] {{0, 1, 31, 0}, {1, 0, 31, 6}});
        lab.setStart(0, 12);
        machineIs(lab, new int[][] {{0, 1, 31, 0}, {1, 0, 31, 6}, {31, 2, 32, 0}});
        lab.undo();
        lab.undo();
        machineIs(lab, new int[][] {{0, 1, 31, 0}, {1, 0, 31, 5}});
        lab.begin(2, 3);
        machineIs(lab, new int[][] {{0, 1, 31, 0}});
    }
}
