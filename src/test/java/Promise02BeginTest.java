/** Promise 2: begin. */
final class Promise02BeginTest {
    private static final Checks CHECKS = new Checks("promise 2, begin");
    private static final int LEAST = Integer.MIN_VALUE;
    private static final int MOST = Integer.MAX_VALUE;

    private Promise02BeginTest() {
    }

    public static void main(String[] args) {
        takesStatesFrom1To4AndSymbolsFrom1To5();
        refusesOtherStates();
        refusesOtherSymbols();
        answersHowManyRulesThereWere();
        leavesNoRules();
        setsTheFirstStart();
        isAChange();
        isAChangeEvenToTheSame();
        leavesTheText();
        CHECKS.end();
    }

    /** "states: S, 1 to 4; symbols: G, 1 to 5". */
    private static void takesStatesFrom1To4AndSymbolsFrom1To5() {
        for (int states = 1; states <= 4; states++) {
            for (int symbols = 1; symbols <= 5; symbols++) {
                String size = "(" + states + ", " + symbols + ")";
                StackLab lab = new StackLab();
                CHECKS.due("begin" + size, lab.begin(states, symbols), 0);
                CHECKS.dueAll("told after begin" + size, Labs.told(lab), states, symbols, 0, 0, 1, 0, 0, 0);
                CHECKS.due("the last state of " + size, lab.addRule(states - 1, 1, 0, 0, 1), 0);
                CHECKS.due("the next state of " + size, lab.addRule(states, 1, 0, 0, 1), StackLab.BAD_NAME);
                CHECKS.due("the last symbol of " + size, lab.addRule(0, symbols, 0, 1, 1), 1);
                CHECKS.due("the next symbol of " + size, lab.addRule(0, symbols + 1, 0, 1, 1), StackLab.BAD_NAME);
            }
        }
    }

    /** "Returns ..; BAD_VALUE", for states of which there are too few or too many. */
    private static void refusesOtherStates() {
        for (int states : new int[] {0, 5, -1, LEAST, MOST}) {
            for (int symbols : new int[] {1, 3, 5}) {
                CHECKS.refused("begin(" + states + ", " + symbols + ")", StackLab.BAD_VALUE, Labs::used,
                        lab -> lab.begin(states, symbols));
            }
        }
    }

    /** "Returns ..; BAD_VALUE", for symbols of which there are too few or too many. */
    private static void refusesOtherSymbols() {
        for (int symbols : new int[] {0, 6, -1, LEAST, MOST}) {
            for (int states : new int[] {1, 2, 4, 0, 5}) {
                CHECKS.refused("begin(" + states + ", " + symbols + ")", StackLab.BAD_VALUE, Labs::used,
                        lab -> lab.begin(states, symbols));
            }
        }
    }

    /** "Returns how many rules there were". */
    private static void answersHowManyRulesThereWere() {
        for (int many = 0; many <= 20; many++) {
            CHECKS.due("begin after " + many + " rules", Labs.withRules(many).begin(1, 1), many);
        }
    }

    /** "Begins a new system without rules": all 20 places are free again. */
    private static void leavesNoRules() {
        StackLab lab = Labs.withRules(20);
        lab.begin(2, 3);
        CHECKS.due("rule(0, 0)", lab.rule(0, 0), StackLab.BAD_NAME);
        CHECKS.due("addRule, one that there was", lab.addRule(0, 1, 0, 0, 7), 0);
        CHECKS.due("distance(0, 0)", lab.distance(0, 0), 7);
    }

    /** "with the first start configuration". */
    private static void setsTheFirstStart() {
        StackLab lab = new StackLab();
        lab.setStart(1, 3321);
        CHECKS.due("distance(1, 3321)", lab.distance(1, 3321), 0);
        CHECKS.due("arcs()", lab.arcs(), 4);
        lab.begin(2, 3);
        CHECKS.due("told(3)", lab.told(3), 0);
        CHECKS.due("told(4)", lab.told(4), 1);
        CHECKS.due("distance(0, 1)", lab.distance(0, 1), 0);
        CHECKS.due("distance(1, 3321)", lab.distance(1, 3321), StackLab.NONE);
        CHECKS.due("arcs()", lab.arcs(), 1);
    }

    /** "This is a change." */
    private static void isAChange() {
        StackLab lab = Labs.used();
        lab.begin(4, 5);
        lab.begin(1, 1);
        CHECKS.due("undo()", lab.undo(), 6);
        CHECKS.dueAll("told", Labs.told(lab), 4, 5, 0, 0, 1, 0, 0, 0);
        CHECKS.due("undo()", lab.undo(), 5);
        CHECKS.dueTrue("all is as before", Labs.seen(lab).equals(Labs.seen(Labs.used())));
    }

    /** A call "can be undone if it reported no error", also if there is nothing that it alters. */
    private static void isAChangeEvenToTheSame() {
        StackLab lab = new StackLab();
        lab.begin(2, 3);
        CHECKS.due("undo()", lab.undo(), 0);
        CHECKS.due("undo()", lab.undo(), StackLab.NOT_POSSIBLE);
    }

    private static void leavesTheText() {
        StackLab lab = Labs.withText("1c>1:9;");
        lab.begin(1, 3);
        CHECKS.due("fault()", lab.fault(), 0);
        lab.begin(2, 3);
        CHECKS.due("fault()", lab.fault(), StackLab.NONE);
        CHECKS.due("wipe()", lab.wipe(), 7);
    }
}
