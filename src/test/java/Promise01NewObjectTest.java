/** Promise 1: a new object. */
final class Promise01NewObjectTest {
    private static final Checks CHECKS = new Checks("promise 1, a new object");

    private Promise01NewObjectTest() {
    }

    public static void main(String[] args) {
        hasTwoStates();
        hasThreeSymbols();
        hasNoRules();
        hasTheFirstStart();
        hasAnEmptyText();
        hasNothingToUndo();
        isApartFromOthers();
        answersItsCall512();
        CHECKS.end();
    }

    /** "Creates a system with 2 states". */
    private static void hasTwoStates() {
        StackLab lab = new StackLab();
        CHECKS.due("told(0)", lab.told(0), 2);
        CHECKS.due("headDistance(1, 1)", lab.headDistance(1, 1), StackLab.NONE);
        CHECKS.due("headDistance(2, 1)", lab.headDistance(2, 1), StackLab.BAD_NAME);
    }

    /** "Creates a system with .. 3 symbols". */
    private static void hasThreeSymbols() {
        StackLab lab = new StackLab();
        CHECKS.due("told(1)", lab.told(1), 3);
        CHECKS.due("headDistance(0, 3)", lab.headDistance(0, 3), StackLab.NONE);
        CHECKS.due("headDistance(0, 4)", lab.headDistance(0, 4), StackLab.BAD_NAME);
    }

    /** "no rules": already rule 0 is beyond. */
    private static void hasNoRules() {
        StackLab lab = new StackLab();
        CHECKS.dueAll("told", Labs.told(lab), 2, 3, 0, 0, 1, 0, 0, 0);
        CHECKS.due("rule(0, 0)", lab.rule(0, 0), StackLab.BAD_NAME);
        CHECKS.due("removeRule(0)", lab.removeRule(0), StackLab.BAD_NAME);
        CHECKS.due("addRule", lab.addRule(0, 1, 0, 0, 1), 0);
    }

    /** "at first it is the state 0 with the word 1". */
    private static void hasTheFirstStart() {
        StackLab lab = new StackLab();
        CHECKS.due("told(3)", lab.told(3), 0);
        CHECKS.due("told(4)", lab.told(4), 1);
        CHECKS.due("distance(0, 1)", lab.distance(0, 1), 0);
        CHECKS.due("distance(0, 0)", lab.distance(0, 0), StackLab.NONE);
        CHECKS.due("distance(1, 1)", lab.distance(1, 1), StackLab.NONE);
        CHECKS.due("distance(0, 11)", lab.distance(0, 11), StackLab.NONE);
    }

    /** "the text is empty". */
    private static void hasAnEmptyText() {
        CHECKS.due("wipe()", new StackLab().wipe(), 0);
        CHECKS.due("fault()", new StackLab().fault(), StackLab.NONE);
        CHECKS.due("load()", new StackLab().load(), 0);
        CHECKS.due("write('0')", new StackLab().write('0'), 1);
    }

    /** "and there is nothing to undo". */
    private static void hasNothingToUndo() {
        StackLab lab = new StackLab();
        CHECKS.due("undo()", lab.undo(), StackLab.NOT_POSSIBLE);
        CHECKS.dueAll("told", Labs.told(lab), 2, 3, 0, 0, 1, 0, 0, 0);
    }

    private static void isApartFromOthers() {
        StackLab before = new StackLab();
        String seen = Labs.seen(new StackLab());
        StackLab changed = new StackLab();
        changed.begin(4, 5);
        changed.addRule(0, 1, 0, 0, 1);
        changed.setStart(3, 5555);
        changed.write('0');
        CHECKS.dueTrue("one made before is as new", Labs.seen(before).equals(seen));
        CHECKS.dueTrue("one made after is as new", Labs.seen(new StackLab()).equals(seen));
    }

    /** "An object is used for at most 512 calls after it has been made". */
    private static void answersItsCall512() {
        StackLab lab = new StackLab();
        lab.addRule(0, 1, 0, 0, 1);
        for (int call = 2; call <= 509; call++) {
            lab.setWeight(0, 1 + call % 20);
        }
        CHECKS.due("call 510, distance(0, 0)", lab.distance(0, 0), 10);
        CHECKS.due("call 511, undo()", lab.undo(), 7);
        CHECKS.due("call 512, distance(0, 0)", lab.distance(0, 0), 9);
    }
}
