import java.util.Arrays;

/** Objects that tests begin with, and what can be seen of an object. */
final class Labs {
    static final int[][] LAST_PAIRS = {{0, 1, 10, 0}, {2, 4, 23, 0}, {3, 5, 29, 0}, {3, 5, 31, 0}, {10, 5, 29, 9},
        {10, 5, 31, 9}, {23, 5, 29, 8}, {23, 5, 31, 8}, {29, 1, 29, 7}, {29, 1, 31, 7}};
    private static final int[] WORDS = {0, 1, 2, 3, 11, 12, 13, 21, 22, 23};

    private Labs() {
    }

    /** Three rules, a start stack of two symbols, five changes to undo, and a text that is a rule. */
    static StackLab used() {
        StackLab lab = new StackLab();
        lab.addRule(0, 1, 0, 21, 3);
        lab.addRule(0, 2, 1, 0, 4);
        lab.addRule(1, 1, 0, 3, 5);
        lab.setWeight(2, 6);
        lab.setStart(0, 13);
        write(lab, "0a>1bc:7;");
        return lab;
    }

    /** This many states and symbols, two rules, and a text that is a rule. */
    static StackLab sized(int states, int symbols) {
        StackLab lab = new StackLab();
        lab.begin(states, symbols);
        lab.addRule(0, 1, 0, 0, 2);
        lab.addRule(0, 1, 0, 11, 3);
        write(lab, "0a>0a:4;");
        return lab;
    }

    /** This many rules, at most 20, in the first system: rule k has the weight k + 1. */
    static StackLab withRules(int many) {
        StackLab lab = new StackLab();
        for (int k = 0; k < many; k++) {
            lab.addRule(0, 1, k % 2, WORDS[k / 2], k + 1);
        }
        return lab;
    }

    /** Each state from 0 to 2 puts one more 1 on the stack and leads to the next state, with the weight 1. */
    static StackLab climbing(int start) {
        StackLab lab = new StackLab();
        lab.begin(4, 1);
        lab.addRule(0, 1, 1, 11, 1);
        lab.addRule(1, 1, 2, 11, 1);
        lab.addRule(2, 1, 3, 11, 1);
        lab.setStart(0, start);
        return lab;
    }

    /** 3 over 4 becomes y over 24 in state q, y becomes 1 two states further, and goes to the next state. */
    static StackLab pushingTo(int q, int y) {
        StackLab lab = new StackLab();
        lab.begin(4, 5);
        lab.setStart((q + 1) % 4, 34);
        lab.addRule((q + 1) % 4, 3, q, y * 10 + 2, 6);
        lab.addRule(q, y, (q + 2) % 4, 1, 5);
        lab.addRule((q + 2) % 4, 1, (q + 3) % 4, 0, 4);
        return lab;
    }

    /** Removals in two states by turns: 1 over 2 over 2 over 3. */
    static StackLab removing() {
        StackLab lab = new StackLab();
        lab.setStart(0, 1223);
        lab.addRule(0, 1, 0, 0, 1);
        lab.addRule(0, 2, 1, 0, 2);
        lab.addRule(1, 2, 0, 0, 3);
        return lab;
    }

    /** Pushes to the first and to the last of the pairs of a state and a symbol; LAST_PAIRS has its arcs. */
    static StackLab lastPairs() {
        StackLab lab = new StackLab();
        lab.begin(4, 5);
        lab.setStart(3, 5);
        lab.addRule(3, 5, 3, 51, 7);
        lab.addRule(3, 5, 2, 45, 8);
        lab.addRule(3, 5, 0, 15, 9);
        return lab;
    }

    /** An object with this text. */
    static StackLab withText(String text) {
        StackLab lab = new StackLab();
        write(lab, text);
        return lab;
    }

    static void write(StackLab lab, String text) {
        for (int k = 0; k < text.length(); k++) {
            lab.write(text.charAt(k));
        }
    }

    static int[] told(StackLab lab) {
        int[] told = new int[8];
        for (int what = 0; what < 8; what++) {
            told[what] = lab.told(what);
        }
        return told;
    }

    static int[] rule(StackLab lab, int rule) {
        int[] parts = new int[5];
        for (int what = 0; what < 5; what++) {
            parts[what] = lab.rule(rule, what);
        }
        return parts;
    }

    /** All that the object tells of itself; asking uses up its text and its history, and at most 340 calls. */
    static String seen(StackLab lab) {
        StringBuilder seen = new StringBuilder();
        addSystem(seen, lab);
        for (int state = 0; state < 2; state++) {
            seen.append(" distance ").append(lab.distance(state, 13)).append(' ').append(lab.distance(state, 0));
            seen.append(" price ").append(lab.price(0, 1, state));
        }
        seen.append(" arcs ").append(lab.arcs()).append(" fault ").append(lab.fault());
        seen.append(" text ").append(lab.wipe());
        for (int left = lab.undo(); left >= 0; left = lab.undo()) {
            seen.append(" undo ").append(left);
            for (int what = 0; what < 5; what++) {
                seen.append(' ').append(lab.told(what));
            }
            int rules = lab.told(2);
            for (int rule = 0; rule < rules; rule++) {
                seen.append(',').append(lab.rule(rule, 4));
            }
        }
        return seen.toString();
    }

    private static void addSystem(StringBuilder seen, StackLab lab) {
        int[] told = told(lab);
        seen.append(Arrays.toString(told));
        for (int rule = 0; rule < told[2]; rule++) {
            seen.append(Arrays.toString(rule(lab, rule)));
        }
    }
}
