/** Promise 26: wipe. */
final class Promise26WipeTest {
    private static final Checks CHECKS = new Checks("promise 26, wipe");

    private Promise26WipeTest() {
    }

    public static void main(String[] args) {
        answersTheLength();
        emptiesTheText();
        leavesNothingOfTheText();
        isNoChange();
        CHECKS.end();
    }

    /** "Returns the length that it had", from 0 to 200. */
    private static void answersTheLength() {
        for (int length : new int[] {0, 1, 2, 199, 200}) {
            StackLab lab = Labs.withText(" ".repeat(length));
            CHECKS.due("wipe()", lab.wipe(), length);
            CHECKS.due("wipe() of the empty text", lab.wipe(), 0);
        }
        CHECKS.due("wipe() after 201 characters", Labs.withText(" ".repeat(201)).wipe(), 200);
    }

    /** "Empties the text." */
    private static void emptiesTheText() {
        StackLab lab = Labs.withText("0a>");
        CHECKS.due("fault()", lab.fault(), 3);
        lab.wipe();
        CHECKS.due("fault()", lab.fault(), StackLab.NONE);
        CHECKS.due("write('0')", lab.write('0'), 1);
        CHECKS.due("fault()", lab.fault(), 1);
    }

    private static void leavesNothingOfTheText() {
        StackLab lab = Labs.withText("0a>0:1;0a>1:1;");
        lab.wipe();
        Labs.write(lab, "0b>0:1;");
        CHECKS.due("load()", lab.load(), 1);
        CHECKS.due("rule(0, 1)", lab.rule(0, 1), 2);
        CHECKS.due("wipe()", lab.wipe(), 7);
    }

    /** It is not called a change: it can't be undone, and it leaves the system. */
    private static void isNoChange() {
        StackLab lab = Labs.withText("0a");
        lab.wipe();
        CHECKS.due("undo()", lab.undo(), StackLab.NOT_POSSIBLE);
        CHECKS.due("wipe()", lab.wipe(), 0);
        StackLab used = Labs.used();
        used.wipe();
        Labs.write(used, "0a>1bc:7;");
        CHECKS.dueTrue("the system stays", Labs.seen(used).equals(Labs.seen(Labs.used())));
    }
}
