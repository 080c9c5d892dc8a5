/** Promise 25: write. */
final class Promise25WriteTest {
    private static final Checks CHECKS = new Checks("promise 25, write");

    private Promise25WriteTest() {
    }

    public static void main(String[] args) {
        takesCodesFrom32To126();
        refusesOtherCodes();
        answersTheNewLength();
        refusesA201stCharacter();
        reportsTheFirstError();
        appendsAtTheEnd();
        hasRoomAgainAfterWipe();
        isNoChange();
        CHECKS.end();
    }

    private static StackLab withLength(int length) {
        StackLab lab = new StackLab();
        for (int k = 0; k < length; k++) {
            lab.write('a');
        }
        return lab;
    }

    /** "code: its code, 32 to 126". */
    private static void takesCodesFrom32To126() {
        StackLab lab = new StackLab();
        for (int code = 32; code <= 126; code++) {
            CHECKS.due("write(" + code + ")", lab.write(code), code - 31);
        }
        CHECKS.due("wipe()", lab.wipe(), 95);
    }

    /** "BAD_VALUE". */
    private static void refusesOtherCodes() {
        for (int code : new int[] {31, 127, 0, -1, 10, 128, 256 + 'a', 65536 + 'a', Integer.MIN_VALUE,
            Integer.MAX_VALUE}) {
            CHECKS.refused("write(" + code + ")", StackLab.BAD_VALUE, Labs::used, lab -> lab.write(code));
        }
    }

    /** "Returns the new length of the text". */
    private static void answersTheNewLength() {
        StackLab lab = new StackLab();
        for (int length = 1; length <= 200; length++) {
            CHECKS.due("write", lab.write(' '), length);
        }
    }

    /** "FULL if the text has 200 characters". */
    private static void refusesA201stCharacter() {
        CHECKS.due("the 200th character", withLength(199).write('a'), 200);
        CHECKS.refused("the 201st character", StackLab.FULL, () -> withLength(200), lab -> lab.write('a'));
        StackLab lab = withLength(200);
        for (int k = 0; k < 20; k++) {
            CHECKS.due("a further one", lab.write('a'), StackLab.FULL);
        }
        CHECKS.due("wipe()", lab.wipe(), 200);
    }

    /** "BAD_VALUE; FULL": the code counts first. */
    private static void reportsTheFirstError() {
        for (int code : new int[] {31, 127}) {
            CHECKS.refused("write(" + code + ") when full", StackLab.BAD_VALUE, () -> withLength(200),
                    lab -> lab.write(code));
        }
    }

    private static void appendsAtTheEnd() {
        StackLab lab = Labs.withText("0a>0:1");
        CHECKS.due("fault()", lab.fault(), 6);
        CHECKS.due("write(';')", lab.write(';'), 7);
        CHECKS.due("fault()", lab.fault(), StackLab.NONE);
        CHECKS.due("write(' ')", lab.write(' '), 8);
        CHECKS.due("fault()", lab.fault(), 7);
    }

    private static void hasRoomAgainAfterWipe() {
        StackLab lab = withLength(200);
        lab.wipe();
        for (int length = 1; length <= 200; length++) {
            CHECKS.due("write", lab.write('b'), length);
        }
        CHECKS.due("write when full again", lab.write('b'), StackLab.FULL);
    }

    /** It is not called a change. */
    private static void isNoChange() {
        StackLab lab = new StackLab();
        lab.setStart(1, 2);
        lab.write('0');
        CHECKS.due("undo()", lab.undo(), 0);
        CHECKS.due("undo()", lab.undo(), StackLab.NOT_POSSIBLE);
        CHECKS.due("write('a')", lab.write('a'), 2);
    }
}
