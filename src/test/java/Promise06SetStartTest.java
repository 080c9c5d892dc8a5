/** Promise 6: setStart. */
final class Promise06SetStartTest {
    private static final Checks CHECKS = new Checks("promise 6, setStart");
    private static final Names NAMES = new Names(CHECKS, "setStart");

    private Promise06SetStartTest() {
    }

    public static void main(String[] args) {
        NAMES.states((lab, p) -> lab.setStart(p, 1));
        NAMES.words(1, 4, (lab, word) -> lab.setStart(0, word));
        takesStacksOf1To4Symbols();
        refusesTheEmptyStackAndFiveSymbols();
        answersHowManySymbolsThereWere();
        setsWhatIsReached();
        isAChange();
        isAChangeEvenToTheSame();
        CHECKS.end();
    }

    /** "word: its stack, of 1 to 4 symbols". */
    private static void takesStacksOf1To4Symbols() {
        for (int word : new int[] {1, 3, 11, 32, 123, 321, 1111, 3333}) {
            StackLab lab = Labs.used();
            CHECKS.due("setStart(1, " + word + ")", lab.setStart(1, word), 2);
            CHECKS.due("told(3)", lab.told(3), 1);
            CHECKS.due("told(4)", lab.told(4), word);
            CHECKS.due("distance(1, " + word + ")", lab.distance(1, word), 0);
        }
    }

    private static void refusesTheEmptyStackAndFiveSymbols() {
        for (int word : new int[] {0, 11111, 33333, 123123}) {
            CHECKS.refused("setStart(0, " + word + ")", StackLab.BAD_NAME, Labs::used,
                    lab -> lab.setStart(0, word));
        }
    }

    /** "Returns how many symbols the stack of the previous one had". */
    private static void answersHowManySymbolsThereWere() {
        StackLab lab = new StackLab();
        CHECKS.due("after 1", lab.setStart(1, 3321), 1);
        CHECKS.due("after 3321", lab.setStart(0, 12), 4);
        CHECKS.due("after 12", lab.setStart(0, 123), 2);
        CHECKS.due("after 123", lab.setStart(0, 3), 3);
        CHECKS.due("after 3", lab.setStart(0, 1), 1);
    }

    private static void setsWhatIsReached() {
        StackLab lab = Labs.used();
        CHECKS.due("distance(1, 13)", lab.distance(1, 13), 7);
        CHECKS.due("headDistance(0, 1)", lab.headDistance(0, 1), 0);
        lab.setStart(1, 1);
        CHECKS.due("distance(1, 13)", lab.distance(1, 13), StackLab.NONE);
        CHECKS.due("distance(0, 3)", lab.distance(0, 3), 6);
        CHECKS.due("headDistance(0, 1)", lab.headDistance(0, 1), StackLab.NONE);
        CHECKS.due("price(0, 2, 1)", lab.price(0, 2, 1), 4);
    }

    /** "This is a change." */
    private static void isAChange() {
        StackLab lab = Labs.used();
        lab.setStart(1, 2222);
        CHECKS.due("undo()", lab.undo(), 5);
        CHECKS.due("distance(0, 13)", lab.distance(0, 13), 0);
        CHECKS.dueTrue("all is as before", Labs.seen(lab).equals(Labs.seen(Labs.used())));
    }

    private static void isAChangeEvenToTheSame() {
        StackLab lab = new StackLab();
        CHECKS.due("setStart(0, 1)", lab.setStart(0, 1), 1);
        CHECKS.due("undo()", lab.undo(), 0);
    }
}
