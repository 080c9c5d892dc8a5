import java.util.function.Consumer;

/** Promise 7: undo. */
final class Promise07UndoTest {
    private static final Checks CHECKS = new Checks("promise 7, undo");

    private Promise07UndoTest() {
    }

    public static void main(String[] args) {
        isNotPossibleWithoutAChange();
        answersHowManyChangesAreLeft();
        keepsEightChanges();
        dropsTheOldestOfNine();
        keepsEightOfVeryMany();
        givesRoomBack();
        restoresEachKindOfChange();
        restoresTheWholeSystem();
        keepsNoRefusedCall();
        keepsNoCallThatIsNoChange();
        isNoChangeItself();
        leavesTheText();
        CHECKS.end();
    }

    /** An object after this many changes: its only rule's weight is how many they were. */
    private static StackLab after(int changes) {
        StackLab lab = new StackLab();
        for (int k = 1; k <= changes; k++) {
            if (k == 1) {
                lab.addRule(0, 1, 0, 0, 1);
            } else {
                lab.setWeight(0, k);
            }
        }
        return lab;
    }

    /** "NOT_POSSIBLE if there is none". */
    private static void isNotPossibleWithoutAChange() {
        CHECKS.refused("undo() of a new object", StackLab.NOT_POSSIBLE, StackLab::new, StackLab::undo);
        CHECKS.refused("undo() after all is undone", StackLab.NOT_POSSIBLE, () -> undone(Labs.used(), 5),
                StackLab::undo);
        CHECKS.dueAll("told", Labs.told(undone(Labs.used(), 6)), 2, 3, 0, 0, 1, 0, 0, 0);
    }

    private static StackLab undone(StackLab lab, int times) {
        for (int k = 0; k < times; k++) {
            lab.undo();
        }
        return lab;
    }

    /** "Returns how many changes can still be undone". */
    private static void answersHowManyChangesAreLeft() {
        for (int changes = 1; changes <= 8; changes++) {
            StackLab lab = after(changes);
            for (int left = changes - 1; left >= 0; left--) {
                CHECKS.due("undo() of " + changes, lab.undo(), left);
                CHECKS.due("rule(0, 4)", lab.rule(0, 4), left == 0 ? StackLab.BAD_NAME : left);
            }
            CHECKS.due("undo() beyond " + changes, lab.undo(), StackLab.NOT_POSSIBLE);
        }
    }

    /** "A history of at most 8 states is kept": all of 8 changes can be undone. */
    private static void keepsEightChanges() {
        StackLab lab = undone(after(8), 7);
        CHECKS.due("rule(0, 4)", lab.rule(0, 4), 1);
        CHECKS.due("the eighth undo()", lab.undo(), 0);
        CHECKS.due("told(2)", lab.told(2), 0);
        CHECKS.due("the ninth undo()", lab.undo(), StackLab.NOT_POSSIBLE);
    }

    /** "if there are more than 8, the oldest one is dropped". */
    private static void dropsTheOldestOfNine() {
        StackLab lab = after(9);
        CHECKS.due("the first undo()", lab.undo(), 7);
        CHECKS.due("rule(0, 4)", lab.rule(0, 4), 8);
        undone(lab, 6);
        CHECKS.due("rule(0, 4)", lab.rule(0, 4), 2);
        CHECKS.due("the eighth undo()", lab.undo(), 0);
        CHECKS.due("rule(0, 4)", lab.rule(0, 4), 1);
        CHECKS.due("the ninth undo()", lab.undo(), StackLab.NOT_POSSIBLE);
        CHECKS.due("rule(0, 4)", lab.rule(0, 4), 1);
    }

    /** However often the history has been full, the latest 8 states are there in their order. */
    private static void keepsEightOfVeryMany() {
        for (int changes = 10; changes <= 20; changes++) {
            StackLab lab = after(changes);
            for (int left = 7; left >= 0; left--) {
                CHECKS.due("undo() of " + changes, lab.undo(), left);
                CHECKS.due("rule(0, 4)", lab.rule(0, 4), changes - 8 + left);
            }
            CHECKS.due("undo() beyond 8", lab.undo(), StackLab.NOT_POSSIBLE);
        }
    }

    /** "undo() removes the latest state": there is room for as many changes again. */
    private static void givesRoomBack() {
        StackLab lab = undone(after(11), 3);
        for (int weight = 15; weight <= 17; weight++) {
            lab.setWeight(0, weight);
        }
        int[] before = {16, 15, 8, 7, 6, 5, 4, 3};
        for (int k = 0; k < 8; k++) {
            CHECKS.due("undo()", lab.undo(), 7 - k);
            CHECKS.due("rule(0, 4)", lab.rule(0, 4), before[k]);
        }
        CHECKS.due("undo()", lab.undo(), StackLab.NOT_POSSIBLE);
        lab.setWeight(0, 20);
        CHECKS.due("undo()", lab.undo(), 0);
        CHECKS.due("rule(0, 4)", lab.rule(0, 4), 3);
    }

    private static void restores(String name, Consumer<StackLab> change) {
        StackLab lab = Labs.used();
        change.accept(lab);
        CHECKS.due("undo() of " + name, lab.undo(), 5);
        CHECKS.dueTrue(name + " is undone", Labs.seen(lab).equals(Labs.seen(Labs.used())));
    }

    /** "The calls that are called changes below can be undone". */
    private static void restoresEachKindOfChange() {
        restores("begin", lab -> lab.begin(4, 5));
        restores("begin with fewer", lab -> lab.begin(1, 1));
        restores("addRule", lab -> lab.addRule(1, 3, 1, 33, 9));
        restores("removeRule", lab -> lab.removeRule(0));
        restores("setWeight", lab -> lab.setWeight(1, 1));
        restores("setStart", lab -> lab.setStart(1, 3333));
        restores("load", StackLab::load);
    }

    /** "a change records S, G, the rules and the start configuration before it". */
    private static void restoresTheWholeSystem() {
        StackLab lab = new StackLab();
        lab.begin(4, 5);
        for (int k = 0; k < 20; k++) {
            lab.addRule(k % 4, 1 + k / 4, 3 - k % 4, 55 - k % 5, 20 - k);
        }
        lab.setStart(3, 5432);
        int arcs = lab.arcs();
        lab.begin(1, 1);
        CHECKS.due("arcs()", lab.arcs(), 1);
        CHECKS.due("undo()", lab.undo(), 7);
        CHECKS.dueAll("told", Labs.told(lab), 4, 5, 20, 3, 5432, 0, 0, 20);
        for (int k = 0; k < 20; k++) {
            CHECKS.dueAll("rule " + k, Labs.rule(lab, k), k % 4, 1 + k / 4, 3 - k % 4, 55 - k % 5, 20 - k);
        }
        CHECKS.due("distance(3, 5432)", lab.distance(3, 5432), 0);
        CHECKS.due("arcs()", lab.arcs(), arcs);
    }

    /** "can be undone if they reported no error". */
    private static void keepsNoRefusedCall() {
        StackLab lab = new StackLab();
        lab.addRule(0, 1, 0, 0, 1);
        lab.addRule(0, 1, 0, 0, 2);
        lab.addRule(0, 1, 0, 0, 21);
        lab.addRule(0, 4, 0, 0, 2);
        lab.removeRule(1);
        lab.setWeight(0, 0);
        lab.setWeight(1, 1);
        lab.setStart(0, 0);
        lab.begin(0, 0);
        lab.write('x');
        lab.load();
        CHECKS.due("undo()", lab.undo(), 0);
        CHECKS.due("told(2)", lab.told(2), 0);
        CHECKS.due("undo()", lab.undo(), StackLab.NOT_POSSIBLE);
    }

    private static void keepsNoCallThatIsNoChange() {
        StackLab lab = new StackLab();
        lab.write('0');
        lab.fault();
        lab.wipe();
        lab.told(0);
        lab.distance(0, 1);
        lab.witness(0, 1, 0, 0);
        lab.critical(0, 1);
        lab.heads();
        lab.arcs();
        lab.wordPrice(0, 0, 0);
        CHECKS.due("undo()", lab.undo(), StackLab.NOT_POSSIBLE);
    }

    /** undo() "restores" a state and is not called a change: a second one goes further back. */
    private static void isNoChangeItself() {
        StackLab lab = after(3);
        CHECKS.due("undo()", lab.undo(), 2);
        CHECKS.due("undo()", lab.undo(), 1);
        CHECKS.due("rule(0, 4)", lab.rule(0, 4), 1);
    }

    /** The text is not among what "a change records". */
    private static void leavesTheText() {
        StackLab lab = new StackLab();
        lab.setStart(0, 2);
        Labs.write(lab, "0a");
        CHECKS.due("undo()", lab.undo(), 0);
        CHECKS.due("wipe()", lab.wipe(), 2);
        lab.setStart(0, 2);
        CHECKS.due("undo()", lab.undo(), 0);
        CHECKS.due("wipe()", lab.wipe(), 0);
    }
}
