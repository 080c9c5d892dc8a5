import java.util.function.Supplier;

/** Promise 21: arcWeight. */
final class Promise21ArcWeightTest {
    private static final Checks CHECKS = new Checks("promise 21, arcWeight");
    private static final int LEAST = Integer.MIN_VALUE;
    private static final int MOST = Integer.MAX_VALUE;

    private Promise21ArcWeightTest() {
    }

    public static void main(String[] args) {
        tellsEachArcAndNothingElse();
        tellsNothingOfNumbersThatAreNoNodes();
        tellsNothingOfNumbersThatAreNoLabels();
        tellsTheLeastWeight();
        endsAtTheLimit();
        keepsTheArcWithTheWeight0BeyondTheLimit();
        isNeverAnError();
        followsChanges();
        CHECKS.end();
    }

    private static void weightIs(StackLab lab, int from, int label, int to, int want) {
        CHECKS.due("arcWeight(" + from + ", " + label + ", " + to + ")", lab.arcWeight(from, label, to), want);
    }

    /** All nodes and labels and some beyond, with a new object for each first node: 512 calls are enough. */
    private static void machineIs(Supplier<StackLab> make, int[][] arcs) {
        for (int from = -1; from <= 36; from++) {
            StackLab lab = make.get();
            for (int label = -1; label <= 7; label++) {
                for (int to = -1; to <= 36; to++) {
                    int want = StackLab.NONE;
                    for (int[] arc : arcs) {
                        want = arc[0] == from && arc[1] == label && arc[2] == to ? arc[3] : want;
                    }
                    weightIs(lab, from, label, to, want);
                }
            }
        }
    }

    private static StackLab longStart() {
        StackLab lab = new StackLab();
        lab.setStart(1, 3221);
        lab.addRule(1, 3, 0, 0, 4);
        return lab;
    }

    /** "Returns the weight of the arc between them with this label; NONE if there is none". */
    private static void tellsEachArcAndNothingElse() {
        machineIs(StackLab::new, new int[][] {{0, 1, 31, 0}});
        machineIs(Promise21ArcWeightTest::longStart, new int[][] {{0, 0, 31, 4}, {1, 3, 31, 0}, {31, 2, 32, 0},
            {32, 2, 33, 0}, {33, 1, 34, 0}});
        machineIs(Labs::lastPairs, Labs.LAST_PAIRS);
    }

    /** "also if there are no such nodes". */
    private static void tellsNothingOfNumbersThatAreNoNodes() {
        StackLab lab = longStart();
        for (int node : new int[] {LEAST, -31, -1, 2, 4, 9, 30, 35, 99, 1 << 16, 1 << 30, MOST}) {
            weightIs(lab, node, 3, 31, StackLab.NONE);
            weightIs(lab, node, 0, 31, StackLab.NONE);
            weightIs(lab, 1, 3, node, StackLab.NONE);
            weightIs(lab, 33, 1, node, StackLab.NONE);
            weightIs(lab, node, 3, node, StackLab.NONE);
        }
        weightIs(lab, 1, 3, 31, 0);
        weightIs(lab, 33, 1, 34, 0);
    }

    /** "also if there are no such .. labels". */
    private static void tellsNothingOfNumbersThatAreNoLabels() {
        StackLab lab = longStart();
        for (int label : new int[] {LEAST, -6, -1, 4, 5, 6, 7, 10, 1 << 16, 1 << 30, MOST}) {
            for (int from : new int[] {0, 1, 31, 32, 33}) {
                for (int to = 31; to <= 34; to++) {
                    weightIs(lab, from, label, to, StackLab.NONE);
                }
            }
        }
    }

    private static void tellsTheLeastWeight() {
        StackLab lab = new StackLab();
        lab.addRule(0, 1, 1, 0, 9);
        lab.addRule(0, 1, 0, 2, 4);
        lab.addRule(0, 2, 1, 0, 4);
        weightIs(lab, 1, 0, 31, 8);
        lab.setWeight(0, 7);
        weightIs(lab, 1, 0, 31, 7);
    }

    /** "no arc with a weight above 1000000 follows". */
    private static void endsAtTheLimit() {
        weightIs(Limit.toBelow(999999), 0, 0, 31, 999999);
        weightIs(Limit.toBelow(1000000), 0, 0, 31, 1000000);
        weightIs(Limit.toBelow(1000001), 0, 0, 31, StackLab.NONE);
    }

    /** The push of 54 from 5 makes the arcs from 3 to 29, and from 29 to 32 if it is not too heavy. */
    private static void keepsTheArcWithTheWeight0BeyondTheLimit() {
        int[][] due = {{999998, 0, 999999}, {999999, 0, 1000000}, {1000000, 0, StackLab.NONE},
            {1000001, StackLab.NONE, StackLab.NONE}};
        for (int[] row : due) {
            StackLab lab = Limit.toBelow(row[0]);
            lab.addRule(0, 5, 3, 54, 1);
            weightIs(lab, 3, 5, 29, row[1]);
            weightIs(lab, 29, 4, 32, row[2]);
        }
    }

    /** The document names no error for this call. */
    private static void isNeverAnError() {
        int[] odd = {LEAST, -1, 0, 5, 6, 30, 35, MOST};
        for (int from : odd) {
            for (int label : odd) {
                for (int to : odd) {
                    weightIs(new StackLab(), from, label, to, StackLab.NONE);
                }
            }
        }
    }

    private static void followsChanges() {
        StackLab lab = new StackLab();
        lab.addRule(0, 1, 1, 0, 5);
        weightIs(lab, 1, 0, 31, 5);
        lab.setWeight(0, 6);
        weightIs(lab, 1, 0, 31, 6);
        lab.undo();
        weightIs(lab, 1, 0, 31, 5);
        lab.setStart(0, 12);
        weightIs(lab, 31, 2, 32, 0);
        lab.setStart(0, 1);
        weightIs(lab, 31, 2, 32, StackLab.NONE);
    }
}
