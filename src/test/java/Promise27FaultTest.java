/** Promise 27: fault. */
final class Promise27FaultTest {
    private static final Checks CHECKS = new Checks("promise 27, fault");

    private Promise27FaultTest() {
    }

    public static void main(String[] args) {
        isNoneForTheEmptyText();
        isNoneForATextOfRules();
        isTheLengthWithinAnItem();
        isTheFirstCharacterThatCannotStand();
        takesStatesOfThePresentSystem();
        takesSymbolsOfThePresentSystem();
        takesWordsOf0To2Letters();
        takesNoBlanks();
        takesWeightsFrom1To20();
        endsAWeightAfterTwoDigits();
        checksAWeightBeforeWhatFollows();
        isTheSemicolonOfARuleThatIsThere();
        isTheFirstCharacterOfItem21();
        isTheFirstOfSeveralFaults();
        readsATextOf200Characters();
        changesNothing();
        CHECKS.end();
    }

    /** The fault in the first system: 2 states and 3 symbols. */
    private static void faultIs(String text, int want) {
        CHECKS.due("fault() of " + text, Labs.withText(text).fault(), want);
    }

    private static void faultIs(int states, int symbols, String text, int want) {
        StackLab lab = new StackLab();
        lab.begin(states, symbols);
        Labs.write(lab, text);
        CHECKS.due("fault() of " + text + " with " + states + " and " + symbols, lab.fault(), want);
    }

    /** "a sequence of items without blanks (perhaps empty)". */
    private static void isNoneForTheEmptyText() {
        faultIs("", StackLab.NONE);
    }

    /** "NONE if it is a text of rules". */
    private static void isNoneForATextOfRules() {
        faultIs("0a>0:1;", StackLab.NONE);
        faultIs("1c>1cc:20;", StackLab.NONE);
        faultIs("0a>0b:1;", StackLab.NONE);
        faultIs("0a>0:1;0a>1:1;0b>0:1;1a>0:1;0a>0a:1;0a>0aa:1;", StackLab.NONE);
    }

    /** "or the length of the text if it ends within an item". */
    private static void isTheLengthWithinAnItem() {
        String text = "0a>1bc:13;1b>0:2;0c>0a:09;";
        for (int length = 0; length <= text.length(); length++) {
            boolean whole = length == 0 || text.charAt(length - 1) == ';';
            // A text that ends after the 0 of 09 ends within an item, too, but its weight is checked first.
            int due = whole ? StackLab.NONE : length == 24 ? 23 : length;
            faultIs(text.substring(0, length), due);
        }
    }

    /** "the index .. of the first character that cannot stand at its place": all 95 characters at each. */
    private static void isTheFirstCharacterThatCannotStand() {
        String[][] places = {{"", "01"}, {"0", "abc"}, {"0a", ">"}, {"0a>", "01"}, {"0a>0", "abc:"},
            {"0a>0b", "abc:"}, {"0a>0bc", ":"}, {"0a>0bc:", "123456789"}, {"0a>0bc:1", "0123456789;"},
            {"0a>0bc:2", "0;"}, {"0a>0bc:3", ";"}, {"0a>0bc:20", ";"}, {"0a>0bc:0", "123456789"},
            {"0a>0bc:05", ";"}, {"0a>0bc:5;", "01"}, {"0a>0bc:5;1", "abc"}};
        for (String[] place : places) {
            String before = place[0];
            for (char sign = 32; sign <= 126; sign++) {
                int due = before.length();
                if (place[1].indexOf(sign) >= 0) {
                    due = sign == ';' ? StackLab.NONE : before.length() + 1;
                } else if (before.endsWith(":0") || before.matches(".*:[23]") && Character.isDigit(sign)) {
                    due = 7;
                }
                faultIs(before + sign, due);
                faultIs(before + sign + "~", due == StackLab.NONE ? before.length() + 1 : due);
            }
        }
    }

    /** "States .. must exist in the present system." */
    private static void takesStatesOfThePresentSystem() {
        for (int states = 1; states <= 4; states++) {
            for (int p = 0; p <= 9; p++) {
                faultIs(states, 3, p + "a>0:1;", p < states ? StackLab.NONE : 0);
                faultIs(states, 3, "0a>" + p + ":1;", p < states ? StackLab.NONE : 3);
            }
        }
        StackLab lab = Labs.withText("3e>2dc:5;");
        CHECKS.due("fault(), 2 and 3", lab.fault(), 0);
        lab.begin(4, 4);
        CHECKS.due("fault(), 4 and 4", lab.fault(), 1);
        lab.begin(4, 5);
        CHECKS.due("fault(), 4 and 5", lab.fault(), StackLab.NONE);
        lab.begin(3, 5);
        CHECKS.due("fault(), 3 and 5", lab.fault(), 0);
        lab.undo();
        CHECKS.due("fault(), 4 and 5 again", lab.fault(), StackLab.NONE);
    }

    /** "The letters a to e are the symbols 1 to 5", and symbols "must exist in the present system". */
    private static void takesSymbolsOfThePresentSystem() {
        for (int symbols = 1; symbols <= 5; symbols++) {
            for (char letter = 'a'; letter <= 'g'; letter++) {
                boolean there = letter - 'a' < symbols;
                faultIs(1, symbols, "0" + letter + ">0:1;", there ? StackLab.NONE : 1);
                faultIs(1, symbols, "0a>0" + letter + ":1;", there ? StackLab.NONE : 4);
                faultIs(1, symbols, "0a>0a" + letter + ":1;", there ? StackLab.NONE : 5);
            }
        }
        faultIs(1, 5, "0A>0:1;", 1);
        faultIs(1, 5, "0`>0:1;", 1);
        faultIs(1, 5, "01>0:1;", 1);
    }

    /** "0 to 2 letters for the word". */
    private static void takesWordsOf0To2Letters() {
        faultIs("0a>0:1;", StackLab.NONE);
        faultIs("0a>0a:1;", StackLab.NONE);
        faultIs("0a>0aa:1;", StackLab.NONE);
        faultIs("0a>0aaa:1;", 6);
        faultIs("0a>0aaaa:1;", 6);
    }

    /** "a sequence of items without blanks". */
    private static void takesNoBlanks() {
        String item = "0a>1bc:13;";
        for (int at = 0; at <= item.length(); at++) {
            faultIs(item.substring(0, at) + " " + item.substring(at), at);
        }
    }

    /** "for a weight that is 0 or greater than 20, it is the index of its first digit". */
    private static void takesWeightsFrom1To20() {
        for (int weight = 0; weight <= 99; weight++) {
            int due = weight >= 1 && weight <= 20 ? StackLab.NONE : 5;
            faultIs("0a>0:" + weight + ";", due);
            faultIs("0a>0:" + (weight < 10 ? "0" : "") + weight + ";", due);
            faultIs("1b>0ab:3;0a>0:" + weight + ";", due == StackLab.NONE ? due : 14);
        }
    }

    /** "one or two digits (as many as possible, but at most two; 05 is 5)". */
    private static void endsAWeightAfterTwoDigits() {
        faultIs("0a>0:;", 5);
        faultIs("0a>0:005;", 5);
        faultIs("0a>0:012;", 7);
        faultIs("0a>0:100;", 7);
        faultIs("0a>0:200;", 7);
        faultIs("0a>0:210;", 5);
        faultIs("0a>0:-1;", 5);
        faultIs("0a>0:+1;", 5);
        faultIs("0a>0:1.;", 6);
        StackLab lab = Labs.withText("0a>0:05;");
        lab.load();
        CHECKS.due("rule(0, 4)", lab.rule(0, 4), 5);
    }

    /** "it ends after its second digit, before the first character that is not a digit, or at the end". */
    private static void checksAWeightBeforeWhatFollows() {
        faultIs("0a>0:0", 5);
        faultIs("0a>0:00", 5);
        faultIs("0a>0:21", 5);
        faultIs("0a>0:99", 5);
        faultIs("0a>0:0x", 5);
        faultIs("0a>0:00x", 5);
        faultIs("0a>0:21x", 5);
        faultIs("0a>0:2x", 6);
        faultIs("0a>0:20x", 7);
        faultIs("0a>0:20", 7);
        faultIs("0a>0:2", 6);
        faultIs("0a>0:", 5);
    }

    /** "for a rule with the same p, X, q and word as one before, the index of its semicolon". */
    private static void isTheSemicolonOfARuleThatIsThere() {
        faultIs("0a>0:1;0a>0:1;", 13);
        faultIs("0a>0:1;0a>0:20;", 14);
        faultIs("0a>0ab:1;1a>0ab:1;0a>0ab:2;", 26);
        faultIs("0a>0:1;0a>0a:1;0a>0a:1;0a>0:1;", 22);
        faultIs("0a>0ab:1;0a>0ba:1;0a>0a:1;0a>0b:1;0a>0:1;0b>0ab:1;0a>1ab:1;1a>0ab:1;", StackLab.NONE);
        faultIs("0a>0:1;0a>0:1", 13);
        faultIs("0a>0:1;0a>0:1x", 13);
        faultIs("0a>0:1;0a>0:0;", 12);
        faultIs("0a>0:1;0a>0:21;", 12);
        StackLab lab = new StackLab();
        lab.addRule(0, 1, 0, 0, 1);
        Labs.write(lab, "0a>0:1;");
        CHECKS.due("fault() beside the same rule in the system", lab.fault(), StackLab.NONE);
    }

    /** "for a 21st item, that of its first character", whatever it is. */
    private static void isTheFirstCharacterOfItem21() {
        faultIs(4, 5, Texts.shortest(19), StackLab.NONE);
        faultIs(4, 5, Texts.shortest(20), StackLab.NONE);
        faultIs(4, 5, Texts.shortest(21), 140);
        for (String more : new String[] {"0", "0a>0b:1;", "x", ";", "0a>0:7;", "0a>1:0;", " "}) {
            faultIs(4, 5, Texts.shortest(20) + more, 140);
        }
        faultIs(4, 5, Texts.shortest(20).substring(0, 139), 139);
        faultIs(4, 5, Texts.shortest(28), 140);
    }

    private static void isTheFirstOfSeveralFaults() {
        faultIs("0a>0:1;2a>0:1;2a>0:1;", 7);
        faultIs("0a>0:99;x", 5);
        faultIs("0d>9:1;", 1);
        faultIs("0a>0:1;0a>0:1;x", 13);
        faultIs("0a>0:1;;", 7);
        faultIs("0a>0:1;0", 8);
    }

    /** "a text of at most 200 characters": 20 items of 10 characters. */
    private static void readsATextOf200Characters() {
        faultIs(4, 5, Texts.longest(20), StackLab.NONE);
        faultIs(4, 5, Texts.longest(20).substring(0, 199), 199);
        faultIs(4, 5, Texts.longest(20).substring(0, 199) + "x", 199);
        faultIs(4, 5, "a".repeat(200), 0);
        faultIs(4, 5, Texts.longest(20) + "x", StackLab.NONE);
    }

    private static void changesNothing() {
        for (String more : new String[] {"", "x", "0a>1bc:7;"}) {
            StackLab lab = Labs.used();
            StackLab other = Labs.used();
            Labs.write(lab, more);
            Labs.write(other, more);
            lab.fault();
            lab.fault();
            CHECKS.dueTrue("fault() changes nothing", Labs.seen(lab).equals(Labs.seen(other)));
        }
    }
}
