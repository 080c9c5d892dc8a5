/** Promise 28: load. */
final class Promise28LoadTest {
    private static final Checks CHECKS = new Checks("promise 28, load");

    private Promise28LoadTest() {
    }

    public static void main(String[] args) {
        answersTheNumberOfRules();
        numbersRulesInTheOrderOfTheItems();
        readsTheEmptyText();
        readsTwentyItems();
        takesThePlaceOfAllRules();
        isNotPossibleWithAFault();
        leavesTheSizeAndTheStart();
        leavesTheText();
        isAChange();
        isAChangeEvenToTheSame();
        setsWhatIsReached();
        CHECKS.end();
    }

    /** "Returns the number of rules". */
    private static void answersTheNumberOfRules() {
        for (int many = 0; many <= 20; many++) {
            StackLab lab = new StackLab();
            lab.begin(4, 5);
            Labs.write(lab, Texts.shortest(many));
            CHECKS.due("load()", lab.load(), many);
            CHECKS.due("told(2)", lab.told(2), many);
            CHECKS.due("the last rule", lab.rule(many - 1, 4), many == 0 ? StackLab.BAD_NAME : 7);
            CHECKS.due("the next rule", lab.rule(many, 4), StackLab.BAD_NAME);
        }
    }

    /** "they are numbered in the order of the items". */
    private static void numbersRulesInTheOrderOfTheItems() {
        StackLab lab = Labs.withText("1c>0ab:05;0a>1:7;1b>1c:20;0a>0:1;");
        CHECKS.due("load()", lab.load(), 4);
        CHECKS.dueAll("rule 0", Labs.rule(lab, 0), 1, 3, 0, 12, 5);
        CHECKS.dueAll("rule 1", Labs.rule(lab, 1), 0, 1, 1, 0, 7);
        CHECKS.dueAll("rule 2", Labs.rule(lab, 2), 1, 2, 1, 3, 20);
        CHECKS.dueAll("rule 3", Labs.rule(lab, 3), 0, 1, 0, 0, 1);
    }

    /** The empty text is a text of no rules: all rules go. */
    private static void readsTheEmptyText() {
        StackLab lab = Labs.withRules(20);
        CHECKS.due("load()", lab.load(), 0);
        CHECKS.dueAll("told", Labs.told(lab), 2, 3, 0, 0, 1, 0, 0, 0);
        CHECKS.due("undo()", lab.undo(), 7);
        CHECKS.due("told(2)", lab.told(2), 20);
    }

    private static void readsTwentyItems() {
        StackLab lab = new StackLab();
        lab.begin(4, 5);
        Labs.write(lab, Texts.longest(20));
        CHECKS.due("load()", lab.load(), 20);
        for (int k = 0; k < 20; k++) {
            CHECKS.dueAll("rule " + k, Labs.rule(lab, k), k % 4, 1 + k / 4, (k + 1) % 4, 52, 20);
        }
        CHECKS.due("addRule", lab.addRule(0, 1, 0, 0, 1), StackLab.FULL);
        lab.wipe();
        Labs.write(lab, Texts.shortest(21));
        CHECKS.due("load() of 21 items", lab.load(), StackLab.NOT_POSSIBLE);
        CHECKS.dueAll("rule 19", Labs.rule(lab, 19), 3, 5, 0, 52, 20);
    }

    /** "in place of all rules": those there were do not count against the text's. */
    private static void takesThePlaceOfAllRules() {
        StackLab lab = Labs.withRules(20);
        Labs.write(lab, "0a>0:9;0a>1:8;");
        CHECKS.due("load()", lab.load(), 2);
        CHECKS.dueAll("rule 0", Labs.rule(lab, 0), 0, 1, 0, 0, 9);
        CHECKS.dueAll("rule 1", Labs.rule(lab, 1), 0, 1, 1, 0, 8);
        CHECKS.due("rule(2, 0)", lab.rule(2, 0), StackLab.BAD_NAME);
        CHECKS.due("addRule", lab.addRule(0, 1, 0, 1, 1), 2);
    }

    private static StackLab usedWith(String text) {
        StackLab lab = Labs.used();
        lab.wipe();
        Labs.write(lab, text);
        return lab;
    }

    /** "NOT_POSSIBLE if the text has a fault". */
    private static void isNotPossibleWithAFault() {
        String[] faulty = {"0", "0a>0:1", "x", " ", ";", "2a>0:1;", "0d>0:1;", "0a>2:1;", "0a>0d:1;", "0a>0:0;",
            "0a>0:21;", "0a>0:21", "0a>0:200;", "0b>0:1;0b>0:2;", "0b>0:1;x", "0b>0:1;0", "0a>0:1; "};
        for (String text : faulty) {
            CHECKS.refused("load() of " + text, StackLab.NOT_POSSIBLE, () -> usedWith(text), StackLab::load);
        }
    }

    private static void leavesTheSizeAndTheStart() {
        StackLab lab = new StackLab();
        lab.begin(4, 5);
        lab.setStart(3, 5432);
        Labs.write(lab, "3e>3:2;");
        lab.load();
        CHECKS.dueAll("told", Labs.told(lab), 4, 5, 1, 3, 5432, 1, 0, 0);
        CHECKS.due("distance(3, 432)", lab.distance(3, 432), 2);
    }

    private static void leavesTheText() {
        StackLab lab = Labs.withText("0a>0:1;");
        CHECKS.due("load()", lab.load(), 1);
        CHECKS.due("load() again", lab.load(), 1);
        CHECKS.due("write('x')", lab.write('x'), 8);
        CHECKS.due("load() with a fault", lab.load(), StackLab.NOT_POSSIBLE);
        CHECKS.due("wipe()", lab.wipe(), 8);
    }

    /** "This is a change." */
    private static void isAChange() {
        StackLab lab = Labs.used();
        CHECKS.due("load()", lab.load(), 1);
        CHECKS.dueAll("rule 0", Labs.rule(lab, 0), 0, 1, 1, 23, 7);
        CHECKS.due("undo()", lab.undo(), 5);
        CHECKS.dueTrue("all is as before", Labs.seen(lab).equals(Labs.seen(Labs.used())));
    }

    private static void isAChangeEvenToTheSame() {
        StackLab lab = new StackLab();
        CHECKS.due("load()", lab.load(), 0);
        CHECKS.due("undo()", lab.undo(), 0);
        CHECKS.due("undo()", lab.undo(), StackLab.NOT_POSSIBLE);
    }

    private static void setsWhatIsReached() {
        StackLab lab = Labs.used();
        CHECKS.due("distance(1, 13)", lab.distance(1, 13), 7);
        CHECKS.due("arcs()", lab.arcs(), Labs.used().arcs());
        lab.load();
        CHECKS.due("distance(1, 13)", lab.distance(1, 13), StackLab.NONE);
        CHECKS.due("distance(1, 233)", lab.distance(1, 233), 7);
        CHECKS.due("price(0, 2, 1)", lab.price(0, 2, 1), StackLab.NONE);
        CHECKS.due("arcs()", lab.arcs(), 4);
    }
}
