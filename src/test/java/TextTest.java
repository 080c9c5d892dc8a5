/** Promises 25 to 28: the text. */
final class TextTest {
    private static final int BAD_VALUE = -2;
    private static final int FULL = -4;
    private static final int NOT_POSSIBLE = -5;
    private static final int NONE = -6;

    private static final Checks CHECKS = new Checks();

    private TextTest() {
    }

    public static void main(String[] args) {
        write();
        writeUntilFull();
        wipe();
        faultsOfOneItem();
        faultsOfWeights();
        faultsOfLaterItems();
        faultOfItem21();
        faultInThePresentSystem();
        faultChangesNothing();
        load();
        loadWithAFault();
        loadIsAChange();
        CHECKS.end();
    }

    private static void writeAll(StackLab lab, String text) {
        for (int k = 0; k < text.length(); k++) {
            lab.write(text.charAt(k));
        }
    }

    /** The fault in the first system: 2 states and 3 symbols. */
    private static void faultIs(String text, int want) {
        StackLab lab = new StackLab();
        writeAll(lab, text);
        CHECKS.due("fault() of " + text, lab.fault(), want);
        CHECKS.due("load() of " + text, lab.load() == NOT_POSSIBLE ? 1 : 0, want == NONE ? 0 : 1);
    }

    private static void write() {
        StackLab lab = new StackLab();
        for (int code : new int[] {31, 127, 0, -1, 10, 128, Integer.MIN_VALUE, Integer.MAX_VALUE}) {
            CHECKS.due("write(" + code + ")", lab.write(code), BAD_VALUE);
        }
        for (int code = 32; code <= 126; code++) {
            CHECKS.due("write(" + code + ")", lab.write(code), code - 31);
        }
        CHECKS.due("wipe()", lab.wipe(), 95);
    }

    private static void writeUntilFull() {
        StackLab lab = new StackLab();
        for (int length = 1; length <= 200; length++) {
            CHECKS.due("write, length " + length, lab.write('a'), length);
        }
        CHECKS.due("write when full", lab.write('a'), FULL);
        CHECKS.due("write(31) when full", lab.write(31), BAD_VALUE);
        CHECKS.due("fault() when full", lab.fault(), 0);
        CHECKS.due("wipe() when full", lab.wipe(), 200);
        CHECKS.due("write after that", lab.write('a'), 1);
    }

    private static void wipe() {
        StackLab lab = new StackLab();
        CHECKS.due("wipe()", lab.wipe(), 0);
        writeAll(lab, "0a>");
        CHECKS.due("wipe()", lab.wipe(), 3);
        CHECKS.due("wipe()", lab.wipe(), 0);
        CHECKS.due("fault()", lab.fault(), NONE);
    }

    private static void faultsOfOneItem() {
        faultIs("", NONE);
        faultIs("0a>0:1;", NONE);
        faultIs("1c>1cc:20;", NONE);
        faultIs("0a>0b:1;", NONE);
        String item = "0a>1bc:13;";
        for (int length = 1; length < item.length(); length++) {
            faultIs(item.substring(0, length), length);
        }
        faultIs(" 0a>0:1;", 0);
        faultIs("2a>0:1;", 0);
        faultIs("a", 0);
        faultIs("/a>0:1;", 0);
        faultIs("0d>0:1;", 1);
        faultIs("0A>0:1;", 1);
        faultIs("0`>0:1;", 1);
        faultIs("0 a>0:1;", 1);
        faultIs("0aa>0:1;", 2);
        faultIs("0a<0:1;", 2);
        faultIs("0a>2:1;", 3);
        faultIs("0a>a:1;", 3);
        faultIs("0a>0d:1;", 4);
        faultIs("0a>0;", 4);
        faultIs("0a>01:1;", 4);
        faultIs("0a>0ad:1;", 5);
        faultIs("0a>0aaa:1;", 6);
        faultIs("0a>0aa;", 6);
        faultIs("0a>0:;", 5);
        faultIs("0a>0:-1;", 5);
        faultIs("0a>0:1:", 6);
        faultIs("0a>0:1 ;", 6);
        faultIs("0a>0:1;;", 7);
        faultIs("0a>0:1; ", 7);
        faultIs("0a>0:1;x", 7);
    }

    private static void faultsOfWeights() {
        faultIs("0a>0:01;", NONE);
        faultIs("0a>0:09;", NONE);
        faultIs("0a>0:10;", NONE);
        faultIs("0a>0:20;", NONE);
        faultIs("0a>0:0;", 5);
        faultIs("0a>0:00;", 5);
        faultIs("0a>0:21;", 5);
        faultIs("0a>0:99;", 5);
        faultIs("0a>0:0", 5);
        faultIs("0a>0:00", 5);
        faultIs("0a>0:21", 5);
        faultIs("0a>0:0x", 5);
        faultIs("0a>0:21x", 5);
        faultIs("0a>0:005;", 5);
        faultIs("0a>0:210;", 5);
        faultIs("0a>0:012;", 7);
        faultIs("0a>0:200;", 7);
        faultIs("0a>0:20", 7);
        faultIs("0a>0:2", 6);
        faultIs("0a>0:", 5);
    }

    private static void faultsOfLaterItems() {
        faultIs("0a>0:1;0a>0:1;", 13);
        faultIs("0a>0:1;0a>0:20;", 14);
        faultIs("0a>0:1;0a>0:1", 13);
        faultIs("0a>0:1;0a>0:1x", 13);
        faultIs("0a>0:1;0a>0:0;", 12);
        faultIs("0a>0:1;0a>1:1;0b>0:1;1a>0:1;0a>0a:1;0a>0aa:1;", NONE);
        faultIs("0a>0:1;0a>0a:1;0a>0a:1;0a>0:1;", 22);
        faultIs("0a>0ab:1;0a>0ba:1;", NONE);
        faultIs("0a>0ab:1;1a>0ab:1;0a>0ab:2;", 26);
        faultIs("0a>0:1;2a>0:1;", 7);
        faultIs("0a>0:1;0", 8);
    }

    /** This many items of 7 characters, all different. */
    private static String items(int many) {
        StringBuilder text = new StringBuilder();
        for (int k = 0; k < many; k++) {
            text.append(k % 4).append((char) ('a' + k / 4)).append('>').append((k + 1) % 4).append(":7;");
        }
        return text.toString();
    }

    private static void faultOfItem21() {
        for (String more : new String[] {"", "0", "0a>0b:1;", "x", ";", "0a>1:7;", "0a>1:0;"}) {
            StackLab lab = new StackLab();
            lab.begin(4, 5);
            writeAll(lab, items(20) + more);
            CHECKS.due("fault() of 20 items and " + more, lab.fault(), more.isEmpty() ? NONE : 140);
            CHECKS.due("load()", lab.load(), more.isEmpty() ? 20 : NOT_POSSIBLE);
            CHECKS.due("told(2)", lab.told(2), more.isEmpty() ? 20 : 0);
        }
    }

    private static void faultInThePresentSystem() {
        StackLab lab = new StackLab();
        writeAll(lab, "3e>2dc:5;");
        CHECKS.due("fault(), 2 and 3", lab.fault(), 0);
        lab.begin(4, 4);
        CHECKS.due("fault(), 4 and 4", lab.fault(), 1);
        lab.begin(4, 5);
        CHECKS.due("fault(), 4 and 5", lab.fault(), NONE);
        lab.begin(3, 5);
        CHECKS.due("fault(), 3 and 5", lab.fault(), 0);
        lab.undo();
        CHECKS.due("load(), 4 and 5", lab.load(), 1);
        CHECKS.due("rule(0, 0)", lab.rule(0, 0), 3);
        CHECKS.due("rule(0, 1)", lab.rule(0, 1), 5);
        CHECKS.due("rule(0, 2)", lab.rule(0, 2), 2);
        CHECKS.due("rule(0, 3)", lab.rule(0, 3), 43);
        CHECKS.due("rule(0, 4)", lab.rule(0, 4), 5);
    }

    private static void faultChangesNothing() {
        StackLab lab = new StackLab();
        lab.addRule(0, 1, 1, 0, 6);
        writeAll(lab, "0b>0:1;0c>0:1;");
        CHECKS.due("fault()", lab.fault(), NONE);
        CHECKS.due("told(2)", lab.told(2), 1);
        CHECKS.due("distance(1, 0)", lab.distance(1, 0), 6);
        CHECKS.due("write", lab.write('x'), 15);
        CHECKS.due("fault()", lab.fault(), 14);
        CHECKS.due("told(2)", lab.told(2), 1);
        CHECKS.due("undo()", lab.undo(), 0);
    }

    private static void load() {
        StackLab lab = new StackLab();
        lab.addRule(0, 3, 0, 0, 1);
        lab.addRule(0, 3, 1, 0, 1);
        lab.setStart(1, 32);
        writeAll(lab, "1c>0ab:05;0a>1:7;1b>1c:20;");
        CHECKS.due("load()", lab.load(), 3);
        int[][] rules = {{1, 3, 0, 12, 5}, {0, 1, 1, 0, 7}, {1, 2, 1, 3, 20}};
        for (int k = 0; k < 3; k++) {
            for (int what = 0; what < 5; what++) {
                CHECKS.due("rule(" + k + ", " + what + ")", lab.rule(k, what), rules[k][what]);
            }
        }
        CHECKS.due("told(3)", lab.told(3), 1);
        CHECKS.due("told(4)", lab.told(4), 32);
        CHECKS.due("distance(1, 22)", lab.distance(1, 22), 12);
        CHECKS.due("load() again", lab.load(), 3);
        CHECKS.due("wipe()", lab.wipe(), 26);
        CHECKS.due("load() of the empty text", lab.load(), 0);
        CHECKS.due("told(2)", lab.told(2), 0);
    }

    private static void loadWithAFault() {
        StackLab lab = new StackLab();
        lab.addRule(0, 1, 1, 0, 6);
        writeAll(lab, "0b>0:1;0b>0:2;");
        CHECKS.due("load()", lab.load(), NOT_POSSIBLE);
        CHECKS.due("told(2)", lab.told(2), 1);
        CHECKS.due("rule(0, 1)", lab.rule(0, 1), 1);
        CHECKS.due("distance(1, 0)", lab.distance(1, 0), 6);
        CHECKS.due("undo()", lab.undo(), 0);
    }

    private static void loadIsAChange() {
        StackLab lab = new StackLab();
        lab.addRule(0, 1, 1, 0, 6);
        CHECKS.due("distance(1, 0)", lab.distance(1, 0), 6);
        writeAll(lab, "0a>1:3;");
        CHECKS.due("load()", lab.load(), 1);
        CHECKS.due("distance(1, 0)", lab.distance(1, 0), 3);
        CHECKS.due("undo()", lab.undo(), 1);
        CHECKS.due("rule(0, 4)", lab.rule(0, 4), 6);
        CHECKS.due("distance(1, 0)", lab.distance(1, 0), 6);
        CHECKS.due("fault()", lab.fault(), NONE);
        CHECKS.due("wipe()", lab.wipe(), 7);
    }
}
