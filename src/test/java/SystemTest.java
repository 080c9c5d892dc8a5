/** Promises 1 to 9: the system, its changes and what is told of it. */
final class SystemTest {
    private static final int BAD_NAME = -1;
    private static final int BAD_VALUE = -2;
    private static final int THERE = -3;
    private static final int FULL = -4;
    private static final int NOT_POSSIBLE = -5;
    private static final int LEAST = Integer.MIN_VALUE;
    private static final int MOST = Integer.MAX_VALUE;

    private static final Checks CHECKS = new Checks();

    private SystemTest() {
    }

    public static void main(String[] args) {
        newObject();
        objectsAreApart();
        begin();
        beginWithErrors();
        addRule();
        addRuleWithBadNames();
        addRuleWithOtherErrors();
        removeRule();
        setWeight();
        setStart();
        undoRestoresEachChange();
        undoKeepsEight();
        undoLeavesTheText();
        errorsAreNoChanges();
        told();
        rule();
        CHECKS.end();
    }

    private static int[] toldOf(StackLab lab) {
        int[] told = new int[8];
        for (int what = 0; what < 8; what++) {
            told[what] = lab.told(what);
        }
        return told;
    }

    private static int[] ruleOf(StackLab lab, int rule) {
        int[] parts = new int[5];
        for (int what = 0; what < 5; what++) {
            parts[what] = lab.rule(rule, what);
        }
        return parts;
    }

    private static void newObject() {
        StackLab lab = new StackLab();
        CHECKS.dueAll("new: told", toldOf(lab), 2, 3, 0, 0, 1, 0, 0, 0);
        CHECKS.due("new: undo()", lab.undo(), NOT_POSSIBLE);
        CHECKS.due("new: wipe()", lab.wipe(), 0);
        CHECKS.due("new: fault()", lab.fault(), -6);
        CHECKS.due("new: distance(0, 1)", lab.distance(0, 1), 0);
        CHECKS.due("new: removeRule(0)", lab.removeRule(0), BAD_NAME);
    }

    private static void objectsAreApart() {
        StackLab one = new StackLab();
        StackLab other = new StackLab();
        one.begin(4, 5);
        one.addRule(0, 1, 0, 0, 1);
        one.write('0');
        CHECKS.dueAll("apart: told", toldOf(other), 2, 3, 0, 0, 1, 0, 0, 0);
        CHECKS.due("apart: wipe()", other.wipe(), 0);
        CHECKS.due("apart: undo()", other.undo(), NOT_POSSIBLE);
    }

    private static void begin() {
        StackLab lab = new StackLab();
        lab.addRule(0, 1, 0, 0, 1);
        lab.addRule(0, 1, 0, 1, 1);
        lab.setStart(1, 321);
        CHECKS.due("begin(4, 5)", lab.begin(4, 5), 2);
        CHECKS.dueAll("begin: told", toldOf(lab), 4, 5, 0, 0, 1, 0, 0, 0);
        CHECKS.due("begin: rule(0, 0)", lab.rule(0, 0), BAD_NAME);
        CHECKS.due("begin(1, 1)", lab.begin(1, 1), 0);
        CHECKS.dueAll("begin: told", toldOf(lab), 1, 1, 0, 0, 1, 0, 0, 0);
        CHECKS.due("begin: distance(0, 1)", lab.distance(0, 1), 0);
        CHECKS.due("begin: distance(1, 1)", lab.distance(1, 1), BAD_NAME);
        CHECKS.due("begin: undo()", lab.undo(), 4);
        CHECKS.due("begin: undo()", lab.undo(), 3);
        CHECKS.dueAll("begin undone: told", toldOf(lab), 2, 3, 2, 1, 321, 1, 1, 0);
    }

    private static void beginWithErrors() {
        StackLab lab = new StackLab();
        int[][] wrong = {{0, 1}, {5, 1}, {1, 0}, {1, 6}, {-1, 3}, {2, -1}, {0, 0}, {LEAST, 1}, {MOST, 1},
            {1, LEAST}, {1, MOST}};
        for (int[] call : wrong) {
            CHECKS.due("begin(" + call[0] + ", " + call[1] + ")", lab.begin(call[0], call[1]), BAD_VALUE);
        }
        CHECKS.dueAll("wrong begin: told", toldOf(lab), 2, 3, 0, 0, 1, 0, 0, 0);
        CHECKS.due("wrong begin: undo()", lab.undo(), NOT_POSSIBLE);
        for (int states = 1; states <= 4; states++) {
            for (int symbols = 1; symbols <= 5; symbols++) {
                CHECKS.due("begin(" + states + ", " + symbols + ")", lab.begin(states, symbols), 0);
                CHECKS.due("told(0)", lab.told(0), states);
                CHECKS.due("told(1)", lab.told(1), symbols);
            }
        }
    }

    private static void addRule() {
        StackLab lab = new StackLab();
        CHECKS.due("addRule pop", lab.addRule(0, 1, 1, 0, 1), 0);
        CHECKS.due("addRule swap", lab.addRule(1, 3, 0, 2, 20), 1);
        CHECKS.due("addRule push", lab.addRule(1, 3, 0, 23, 7), 2);
        CHECKS.dueAll("rule 0", ruleOf(lab, 0), 0, 1, 1, 0, 1);
        CHECKS.dueAll("rule 1", ruleOf(lab, 1), 1, 3, 0, 2, 20);
        CHECKS.dueAll("rule 2", ruleOf(lab, 2), 1, 3, 0, 23, 7);
        CHECKS.due("addRule, another state", lab.addRule(1, 1, 1, 0, 1), 3);
        CHECKS.due("addRule, another symbol", lab.addRule(0, 2, 1, 0, 1), 4);
        CHECKS.due("addRule, another new state", lab.addRule(0, 1, 0, 0, 1), 5);
        CHECKS.due("addRule, another word", lab.addRule(0, 1, 1, 11, 1), 6);
    }

    private static void addRuleWithBadNames() {
        StackLab lab = new StackLab();
        int[][] wrong = {{-1, 1, 0, 0}, {2, 1, 0, 0}, {0, 0, 0, 0}, {0, 4, 0, 0}, {0, 1, -1, 0}, {0, 1, 2, 0},
            {0, 1, 0, -1}, {0, 1, 0, 4}, {0, 1, 0, 9}, {0, 1, 0, 10}, {0, 1, 0, 14}, {0, 1, 0, 41},
            {0, 1, 0, 30}, {0, 1, 0, 111}, {0, 1, 0, 100}, {0, 1, 0, 1000000000}, {0, 1, 0, MOST},
            {0, 1, 0, LEAST}, {LEAST, 1, 0, 0}, {MOST, 1, 0, 0}, {0, LEAST, 0, 0}, {0, MOST, 0, 0},
            {0, 1, LEAST, 0}, {0, 1, MOST, 0}, {0, 1, 0, 1111111111}};
        for (int[] c : wrong) {
            String call = "addRule(" + c[0] + ", " + c[1] + ", " + c[2] + ", " + c[3] + ", ..)";
            CHECKS.due(call, lab.addRule(c[0], c[1], c[2], c[3], 1), BAD_NAME);
            CHECKS.due(call + " with a bad weight", lab.addRule(c[0], c[1], c[2], c[3], 0), BAD_NAME);
        }
        CHECKS.due("told(2)", lab.told(2), 0);
        CHECKS.due("undo()", lab.undo(), NOT_POSSIBLE);
    }

    private static void addRuleWithOtherErrors() {
        StackLab lab = new StackLab();
        for (int weight : new int[] {0, -1, 21, LEAST, MOST}) {
            CHECKS.due("addRule, weight " + weight, lab.addRule(0, 1, 0, 0, weight), BAD_VALUE);
        }
        int added = 0;
        for (int word : new int[] {0, 1, 2, 3, 11, 12, 13, 21, 22, 23, 31, 32, 33}) {
            for (int q = 0; q < 2 && added < 20; q++) {
                CHECKS.due("addRule " + added, lab.addRule(0, 1, q, word, 1 + added % 20), added);
                added++;
            }
        }
        CHECKS.due("addRule, a 21st", lab.addRule(1, 1, 1, 0, 1), FULL);
        CHECKS.due("addRule, a 21st with a bad weight", lab.addRule(1, 1, 1, 0, 21), BAD_VALUE);
        CHECKS.due("addRule, a 21st with a bad name", lab.addRule(1, 1, 2, 0, 21), BAD_NAME);
        CHECKS.due("addRule, there and full", lab.addRule(0, 1, 1, 21, 5), THERE);
        CHECKS.due("addRule, there with a bad weight", lab.addRule(0, 1, 1, 21, 0), BAD_VALUE);
        CHECKS.due("told(2)", lab.told(2), 20);
        CHECKS.due("removeRule(19)", lab.removeRule(19), 19);
        CHECKS.due("addRule, there", lab.addRule(0, 1, 0, 0, 9), THERE);
        CHECKS.due("rule(0, 4)", lab.rule(0, 4), 1);
        CHECKS.due("addRule, room again", lab.addRule(1, 1, 1, 0, 1), 19);
    }

    private static void removeRule() {
        StackLab lab = new StackLab();
        lab.addRule(0, 1, 0, 0, 1);
        lab.addRule(0, 2, 1, 3, 2);
        lab.addRule(1, 3, 0, 12, 3);
        for (int rule : new int[] {-1, 3, 20, LEAST, MOST}) {
            CHECKS.due("removeRule(" + rule + ")", lab.removeRule(rule), BAD_NAME);
        }
        CHECKS.due("removeRule(1)", lab.removeRule(1), 2);
        CHECKS.dueAll("rule 0", ruleOf(lab, 0), 0, 1, 0, 0, 1);
        CHECKS.dueAll("rule 1", ruleOf(lab, 1), 1, 3, 0, 12, 3);
        CHECKS.due("rule(2, 0)", lab.rule(2, 0), BAD_NAME);
        CHECKS.due("removeRule(0)", lab.removeRule(0), 1);
        CHECKS.dueAll("rule 0", ruleOf(lab, 0), 1, 3, 0, 12, 3);
        CHECKS.due("removeRule(0)", lab.removeRule(0), 0);
        CHECKS.due("removeRule(0)", lab.removeRule(0), BAD_NAME);
        CHECKS.due("undo()", lab.undo(), 5);
        CHECKS.due("undo()", lab.undo(), 4);
        CHECKS.due("undo()", lab.undo(), 3);
        CHECKS.dueAll("rule 1 again", ruleOf(lab, 1), 0, 2, 1, 3, 2);
        CHECKS.dueAll("rule 2 again", ruleOf(lab, 2), 1, 3, 0, 12, 3);
    }

    private static void setWeight() {
        StackLab lab = new StackLab();
        lab.addRule(0, 1, 1, 0, 4);
        lab.addRule(0, 1, 1, 2, 5);
        CHECKS.due("setWeight(-1, 1)", lab.setWeight(-1, 1), BAD_NAME);
        CHECKS.due("setWeight(2, 1)", lab.setWeight(2, 1), BAD_NAME);
        CHECKS.due("setWeight(2, 0)", lab.setWeight(2, 0), BAD_NAME);
        for (int weight : new int[] {0, -1, 21, LEAST, MOST}) {
            CHECKS.due("setWeight(0, " + weight + ")", lab.setWeight(0, weight), BAD_VALUE);
        }
        CHECKS.due("distance(1, 0)", lab.distance(1, 0), 4);
        CHECKS.due("setWeight(0, 20)", lab.setWeight(0, 20), 4);
        CHECKS.due("distance(1, 0)", lab.distance(1, 0), 20);
        CHECKS.due("setWeight(0, 1)", lab.setWeight(0, 1), 20);
        CHECKS.due("setWeight(0, 1) again", lab.setWeight(0, 1), 1);
        CHECKS.dueAll("rule 1", ruleOf(lab, 1), 0, 1, 1, 2, 5);
        CHECKS.due("undo()", lab.undo(), 4);
        CHECKS.due("undo()", lab.undo(), 3);
        CHECKS.due("rule(0, 4)", lab.rule(0, 4), 20);
    }

    private static void setStart() {
        StackLab lab = new StackLab();
        int[][] wrong = {{-1, 1}, {2, 1}, {0, 0}, {0, 4}, {0, -1}, {0, 11111}, {0, 101}, {0, 110}, {0, 1114},
            {LEAST, 1}, {MOST, 1}, {0, LEAST}, {0, MOST}};
        for (int[] call : wrong) {
            CHECKS.due("setStart(" + call[0] + ", " + call[1] + ")", lab.setStart(call[0], call[1]), BAD_NAME);
        }
        CHECKS.dueAll("wrong setStart: told", toldOf(lab), 2, 3, 0, 0, 1, 0, 0, 0);
        CHECKS.due("setStart(1, 3321)", lab.setStart(1, 3321), 1);
        CHECKS.dueAll("setStart: told", toldOf(lab), 2, 3, 0, 1, 3321, 0, 0, 0);
        CHECKS.due("distance(1, 3321)", lab.distance(1, 3321), 0);
        CHECKS.due("distance(0, 1)", lab.distance(0, 1), -6);
        CHECKS.due("setStart(0, 12)", lab.setStart(0, 12), 4);
        CHECKS.due("setStart(0, 12) again", lab.setStart(0, 12), 2);
        CHECKS.due("setStart(0, 123)", lab.setStart(0, 123), 2);
        CHECKS.due("setStart(0, 1)", lab.setStart(0, 1), 3);
        CHECKS.due("undo()", lab.undo(), 4);
        CHECKS.due("told(4)", lab.told(4), 123);
    }

    private static void undoRestoresEachChange() {
        StackLab lab = new StackLab();
        lab.addRule(0, 1, 0, 0, 1);
        lab.setWeight(0, 9);
        lab.setStart(1, 22);
        lab.removeRule(0);
        lab.begin(3, 4);
        lab.load();
        CHECKS.due("undo load", lab.undo(), 5);
        CHECKS.dueAll("after load", toldOf(lab), 3, 4, 0, 0, 1, 0, 0, 0);
        CHECKS.due("undo begin", lab.undo(), 4);
        CHECKS.dueAll("after begin", toldOf(lab), 2, 3, 0, 1, 22, 0, 0, 0);
        CHECKS.due("undo removeRule", lab.undo(), 3);
        CHECKS.dueAll("rule 0", ruleOf(lab, 0), 0, 1, 0, 0, 9);
        CHECKS.due("undo setStart", lab.undo(), 2);
        CHECKS.dueAll("after setStart", toldOf(lab), 2, 3, 1, 0, 1, 1, 0, 0);
        CHECKS.due("distance(0, 0)", lab.distance(0, 0), 9);
        CHECKS.due("arcWeight(0, 0, 31)", lab.arcWeight(0, 0, 31), 9);
        CHECKS.due("undo setWeight", lab.undo(), 1);
        CHECKS.due("distance(0, 0)", lab.distance(0, 0), 1);
        CHECKS.due("arcWeight(0, 0, 31)", lab.arcWeight(0, 0, 31), 1);
        CHECKS.due("undo addRule", lab.undo(), 0);
        CHECKS.due("distance(0, 0)", lab.distance(0, 0), -6);
        CHECKS.due("undo nothing", lab.undo(), NOT_POSSIBLE);
        CHECKS.dueAll("as new", toldOf(lab), 2, 3, 0, 0, 1, 0, 0, 0);
    }

    private static void undoKeepsEight() {
        StackLab lab = new StackLab();
        lab.addRule(0, 1, 0, 0, 1);
        for (int weight = 2; weight <= 12; weight++) {
            lab.setWeight(0, weight);
        }
        for (int left = 7; left >= 0; left--) {
            CHECKS.due("undo()", lab.undo(), left);
            CHECKS.due("rule(0, 4)", lab.rule(0, 4), left + 4);
        }
        CHECKS.due("undo()", lab.undo(), NOT_POSSIBLE);
        CHECKS.due("rule(0, 4)", lab.rule(0, 4), 4);
        lab.setWeight(0, 20);
        CHECKS.due("undo()", lab.undo(), 0);
        CHECKS.due("rule(0, 4)", lab.rule(0, 4), 4);
    }

    private static void undoLeavesTheText() {
        StackLab lab = new StackLab();
        lab.setStart(0, 2);
        lab.write('0');
        lab.write('a');
        CHECKS.due("undo()", lab.undo(), 0);
        CHECKS.due("wipe()", lab.wipe(), 2);
        lab.write('0');
        lab.begin(1, 1);
        CHECKS.due("undo()", lab.undo(), 0);
        CHECKS.due("wipe()", lab.wipe(), 1);
        CHECKS.due("undo()", lab.undo(), NOT_POSSIBLE);
    }

    private static void errorsAreNoChanges() {
        StackLab lab = new StackLab();
        lab.addRule(0, 1, 0, 0, 1);
        lab.addRule(0, 1, 0, 0, 2);
        lab.addRule(0, 1, 0, 0, 21);
        lab.addRule(0, 9, 0, 0, 2);
        lab.removeRule(1);
        lab.setWeight(0, 0);
        lab.setStart(0, 0);
        lab.begin(0, 0);
        lab.write('x');
        lab.load();
        lab.write(31);
        lab.told(8);
        lab.distance(0, 9);
        CHECKS.due("wipe()", lab.wipe(), 1);
        CHECKS.due("undo()", lab.undo(), 0);
        CHECKS.due("told(2)", lab.told(2), 0);
    }

    private static void told() {
        StackLab lab = new StackLab();
        lab.begin(3, 2);
        lab.addRule(0, 1, 0, 0, 1);
        lab.addRule(1, 1, 0, 0, 1);
        lab.addRule(2, 1, 0, 0, 1);
        lab.addRule(0, 1, 0, 1, 1);
        lab.addRule(0, 1, 0, 2, 1);
        lab.addRule(0, 1, 0, 12, 1);
        lab.setStart(2, 2112);
        CHECKS.dueAll("told", toldOf(lab), 3, 2, 6, 2, 2112, 3, 2, 1);
        for (int what : new int[] {-1, 8, LEAST, MOST}) {
            CHECKS.due("told(" + what + ")", lab.told(what), BAD_VALUE);
        }
        lab.removeRule(5);
        CHECKS.dueAll("told", toldOf(lab), 3, 2, 5, 2, 2112, 3, 2, 0);
    }

    private static void rule() {
        StackLab lab = new StackLab();
        lab.addRule(1, 2, 0, 33, 17);
        CHECKS.dueAll("rule 0", ruleOf(lab, 0), 1, 2, 0, 33, 17);
        for (int what : new int[] {-1, 5, LEAST, MOST}) {
            CHECKS.due("rule(0, " + what + ")", lab.rule(0, what), BAD_VALUE);
            CHECKS.due("rule(1, " + what + ")", lab.rule(1, what), BAD_NAME);
            CHECKS.due("rule(" + what + ", 0)", lab.rule(what, 0), BAD_NAME);
        }
    }
}
