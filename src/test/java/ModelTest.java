import java.util.ArrayDeque;
import java.util.Deque;
import java.util.List;
import java.util.Random;

/**
 * Random runs of all calls, good and bad ones mixed, on one object each: what a call answers must fit
 * the system as it is then, whatever was asked or undone before.
 */
final class ModelTest {
    private static final int RUNS = 160;
    private static final int CALLS = 512;
    private static final int BAD_NAME = -1;
    private static final int BAD_VALUE = -2;
    private static final int THERE = -3;
    private static final int FULL = -4;
    private static final int NOT_POSSIBLE = -5;
    private static final int NONE = -6;
    private static final int[] ODD = {-1, 0, 6, 7, 10, 21, 101, 301, 1111111, 1000000000, Integer.MIN_VALUE,
        Integer.MAX_VALUE};

    private final Checks checks = new Checks("runs of calls");
    private final Random random = new Random(512);
    private StackLab lab;
    private Reference now;
    private Deque<Reference> past;
    private StringBuilder text;
    private String pending;

    private ModelTest() {
    }

    public static void main(String[] args) {
        ModelTest test = new ModelTest();
        for (int run = 0; run < RUNS; run++) {
            test.play(run);
        }
        test.checks.end();
    }

    private void play(int run) {
        lab = new StackLab();
        now = new Reference(2, 3, 1000000);
        past = new ArrayDeque<>();
        text = new StringBuilder();
        pending = "";
        for (int call = 0; call < CALLS; call++) {
            String name = "run " + run + ", call " + call + ": ";
            if (!pending.isEmpty()) {
                write(name, pending.charAt(0));
                pending = pending.substring(1);
            } else if (random.nextInt(3) == 0) {
                change(name);
            } else if (random.nextInt(3) > 0) {
                tell(name);
            } else {
                compute(name);
            }
        }
    }

    private int pick(int least, int most) {
        return random.nextInt(60) == 0 ? ODD[random.nextInt(ODD.length)] : least + random.nextInt(most - least + 1);
    }

    private int pickState() {
        return pick(0, now.states - 1);
    }

    private int pickSymbol() {
        return pick(1, now.symbols);
    }

    private int pickWord(int least, int most) {
        if (random.nextInt(40) == 0) {
            return ODD[random.nextInt(ODD.length)];
        }
        int word = 0;
        for (int k = least + random.nextInt(most - least + 1); k > 0; k--) {
            word = word * 10 + 1 + random.nextInt(now.symbols);
        }
        return word;
    }

    private int pickRule() {
        return pick(0, Math.max(0, now.rules.size() - 1));
    }

    private boolean isState(int p) {
        return p >= 0 && p < now.states;
    }

    private boolean isSymbol(int x) {
        return x >= 1 && x <= now.symbols;
    }

    private boolean isRule(int rule) {
        return rule >= 0 && rule < now.rules.size();
    }

    private boolean isWord(int word, int least, int most) {
        String digits = word == 0 ? "" : Integer.toString(word);
        return digits.matches("[1-" + now.symbols + "]{" + least + "," + most + "}");
    }

    /** Records the present system and leaves a copy of it to be changed. */
    private void record() {
        past.addLast(now);
        if (past.size() > 8) {
            past.removeFirst();
        }
        now = now.copy();
    }

    private void change(String name) {
        switch (random.nextInt(12)) {
            case 0:
                begin(name);
                break;
            case 1:
                removeRule(name);
                break;
            case 2:
                setWeight(name);
                break;
            case 3:
                setStart(name);
                break;
            case 4:
                undo(name);
                break;
            case 5:
                load(name);
                break;
            default:
                addRule(name);
                break;
        }
    }

    private void begin(String name) {
        if (random.nextInt(4) > 0) {
            return;
        }
        int states = pick(1, 4);
        int symbols = pick(1, 5);
        boolean good = states >= 1 && states <= 4 && symbols >= 1 && symbols <= 5;
        checks.due(name + "begin(" + states + ", " + symbols + ")", lab.begin(states, symbols),
                good ? now.rules.size() : BAD_VALUE);
        if (good) {
            record();
            now = new Reference(states, symbols, now.limit);
        }
    }

    private void addRule(String name) {
        int[] rule = {pickState(), pickSymbol(), pickState(), pickWord(0, 2), pick(1, 6)};
        int due = now.rules.size();
        if (!isState(rule[0]) || !isSymbol(rule[1]) || !isState(rule[2]) || !isWord(rule[3], 0, 2)) {
            due = BAD_NAME;
        } else if (rule[4] < 1 || rule[4] > 20) {
            due = BAD_VALUE;
        } else if (now.holds(rule)) {
            due = THERE;
        } else if (now.rules.size() == 20) {
            due = FULL;
        }
        checks.due(name + "addRule", lab.addRule(rule[0], rule[1], rule[2], rule[3], rule[4]), due);
        if (due >= 0) {
            record();
            now.rules.add(rule);
        }
    }

    private void removeRule(String name) {
        int rule = pickRule();
        boolean good = isRule(rule);
        checks.due(name + "removeRule(" + rule + ")", lab.removeRule(rule), good ? now.rules.size() - 1 : BAD_NAME);
        if (good) {
            record();
            now.rules.remove(rule);
        }
    }

    private void setWeight(String name) {
        int rule = pickRule();
        int weight = pick(1, 20);
        boolean good = weight >= 1 && weight <= 20;
        int due = !isRule(rule) ? BAD_NAME : good ? now.rules.get(rule)[4] : BAD_VALUE;
        checks.due(name + "setWeight(" + rule + ", " + weight + ")", lab.setWeight(rule, weight), due);
        if (due >= 0) {
            record();
            now.rules.get(rule)[4] = weight;
        }
    }

    private void setStart(String name) {
        int p = pickState();
        int word = pickWord(1, 4);
        boolean good = isState(p) && isWord(word, 1, 4);
        checks.due(name + "setStart(" + p + ", " + word + ")", lab.setStart(p, word),
                good ? now.start.length : BAD_NAME);
        if (good) {
            record();
            now.startState = p;
            now.start = Reference.digits(word);
        }
    }

    private void undo(String name) {
        checks.due(name + "undo()", lab.undo(), past.isEmpty() ? NOT_POSSIBLE : past.size() - 1);
        if (!past.isEmpty()) {
            now = past.removeLast();
        }
    }

    private void load(String name) {
        Reference draft = now.copy();
        boolean good = faultOf(draft) == NONE;
        checks.due(name + "load() of " + text, lab.load(), good ? draft.rules.size() : NOT_POSSIBLE);
        if (good) {
            record();
            now.rules.clear();
            now.rules.addAll(draft.rules);
        }
    }

    private void write(String name, int code) {
        int due = code < 32 || code > 126 ? BAD_VALUE : text.length() == 200 ? FULL : text.length() + 1;
        checks.due(name + "write(" + code + ")", lab.write(code), due);
        if (due >= 0) {
            text.append((char) code);
        }
    }

    /** The characters that can stand at a place of an item; the places 7 and 8 are those of the weight. */
    private String signsAt(int place) {
        String states = "0123".substring(0, now.states);
        String letters = "abcde".substring(0, now.symbols);
        String[] signs = {states, letters, ">", states, letters + ":", letters + ":", ":", "0123456789",
            "0123456789;", ";"};
        return signs[place];
    }

    /** Reads the text a character at a time. */
    private int faultOf(Reference draft) {
        draft.rules.clear();
        int[] rule = new int[5];
        int place = 0;
        int firstDigit = 0;
        for (int at = 0; at < text.length(); at++) {
            char sign = text.charAt(at);
            boolean weightIsOver = place == 9 || place == 8 && !Character.isDigit(sign);
            if (weightIsOver && (rule[4] < 1 || rule[4] > 20)) {
                return firstDigit;
            }
            if (place == 0 && draft.rules.size() == 20 || signsAt(place).indexOf(sign) < 0) {
                return at;
            }
            if (sign == ';') {
                if (draft.holds(rule)) {
                    return at;
                }
                draft.rules.add(rule);
                rule = new int[5];
                place = 0;
                continue;
            }
            if (sign == ':') {
                place = 6;
                firstDigit = at + 1;
            }
            note(rule, place, sign);
            place++;
        }
        boolean badWeight = place >= 8 && (rule[4] < 1 || rule[4] > 20);
        return place == 0 ? NONE : badWeight ? firstDigit : text.length();
    }

    private static void note(int[] rule, int place, char sign) {
        switch (place) {
            case 0:
                rule[0] = sign - '0';
                break;
            case 1:
                rule[1] = sign - 'a' + 1;
                break;
            case 3:
                rule[2] = sign - '0';
                break;
            case 4:
            case 5:
                rule[3] = rule[3] * 10 + sign - 'a' + 1;
                break;
            case 7:
            case 8:
                rule[4] = rule[4] * 10 + sign - '0';
                break;
            default:
                break;
        }
    }

    /** A text of some items, most of them good. */
    private String makeText() {
        StringBuilder made = new StringBuilder();
        for (int items = random.nextInt(4); items >= 0; items--) {
            StringBuilder item = new StringBuilder();
            item.append(random.nextInt(now.states)).append((char) ('a' + random.nextInt(now.symbols))).append('>');
            item.append(random.nextInt(now.states));
            for (int k = random.nextInt(3); k > 0; k--) {
                item.append((char) ('a' + random.nextInt(now.symbols)));
            }
            item.append(':').append(random.nextInt(3) == 0 ? random.nextInt(26) : 1 + random.nextInt(9)).append(';');
            if (random.nextInt(4) == 0) {
                String signs = "0123abcde>:;;09 x";
                item.setCharAt(random.nextInt(item.length()), signs.charAt(random.nextInt(signs.length())));
            }
            if (random.nextInt(12) == 0) {
                item.setLength(random.nextInt(item.length()));
            }
            made.append(item);
        }
        return made.toString();
    }

    private void tell(String name) {
        switch (random.nextInt(7)) {
            case 0:
                told(name, pick(0, 8));
                break;
            case 1:
                rule(name, pickRule(), pick(0, 4));
                break;
            case 2:
                checks.due(name + "fault() of " + text, lab.fault(), faultOf(now.copy()));
                break;
            case 3:
                if (random.nextInt(3) == 0) {
                    checks.due(name + "wipe()", lab.wipe(), text.length());
                    text.setLength(0);
                    pending = makeText();
                }
                break;
            case 4:
                write(name, pick(30, 128));
                break;
            default:
                int p = pickState();
                int word = pickWord(0, 6);
                boolean good = isState(p) && isWord(word, 0, 6);
                checks.due(name + "distance(" + p + ", " + word + ")", lab.distance(p, word),
                        good ? now.distance(p, word) : BAD_NAME);
                break;
        }
    }

    private void told(String name, int what) {
        int due = BAD_VALUE;
        if (what >= 0 && what < 5) {
            due = new int[] {now.states, now.symbols, now.rules.size(), now.startState, now.startNumber()}[what];
        } else if (what >= 5 && what < 8) {
            due = 0;
            for (int[] rule : now.rules) {
                due += Reference.digits(rule[3]).length == what - 5 ? 1 : 0;
            }
        }
        checks.due(name + "told(" + what + ")", lab.told(what), due);
    }

    private void rule(String name, int rule, int what) {
        int due = !isRule(rule) ? BAD_NAME : what < 0 || what > 4 ? BAD_VALUE : now.rules.get(rule)[what];
        checks.due(name + "rule(" + rule + ", " + what + ")", lab.rule(rule, what), due);
    }

    private void compute(String name) {
        int p = pickState();
        int q = pickState();
        int x = pickSymbol();
        int word = pickWord(0, 6);
        int rule = pickRule();
        boolean head = isState(p) && isSymbol(x);
        boolean asked = isState(p) && isWord(word, 0, 6);
        String with = "(" + p + ", " + x + ", " + word + ", " + q + ", " + rule + ")";
        switch (random.nextInt(10)) {
            case 0:
                checks.due(name + "headDistance" + with, lab.headDistance(p, x),
                        head ? now.headDistance(p, x) : BAD_NAME);
                break;
            case 1:
                checks.due(name + "nearestStack" + with, lab.nearestStack(p, x),
                        head ? now.nearestStack(p, x) : BAD_NAME);
                break;
            case 2:
                checks.due(name + "heads()", lab.heads(), now.heads());
                break;
            case 3:
                checks.due(name + "price" + with, lab.price(p, x, q),
                        head && isState(q) ? now.wordPrice(p, x, q) : BAD_NAME);
                break;
            case 4:
                checks.due(name + "wordPrice" + with, lab.wordPrice(p, word, q),
                        asked && isState(q) ? now.wordPrice(p, word, q) : BAD_NAME);
                break;
            case 5:
                arcs(name);
                break;
            case 6:
                checks.due(name + "distanceWithout" + with, lab.distanceWithout(rule, p, word),
                        asked && isRule(rule) ? now.without(rule).distance(p, word) : BAD_NAME);
                break;
            case 7:
                checks.due(name + "critical" + with, lab.critical(p, word),
                        asked ? now.critical(p, word) : BAD_NAME);
                break;
            case 8:
                checks.due(name + "tolerance" + with, lab.tolerance(rule, p, word),
                        asked && isRule(rule) ? now.tolerance(rule, p, word) : BAD_NAME);
                break;
            default:
                witness(name);
                break;
        }
    }

    private void arcs(String name) {
        List<int[]> arcs = now.arcs();
        int k = pick(0, arcs.size());
        int what = pick(0, 3);
        int due = k < 0 || what < 0 || what > 3 ? BAD_VALUE : k < arcs.size() ? arcs.get(k)[what] : NONE;
        checks.due(name + "arc(" + k + ", " + what + ")", lab.arc(k, what), due);
    }

    private void witness(String name) {
        List<Reference.Run> runs = now.nearestRuns(60);
        Reference.Run run = runs.get(random.nextInt(runs.size()));
        if (run.stack.length() <= 6) {
            int k = pick(0, run.rules.length);
            int due = k < 0 || k > 300 ? BAD_VALUE : k < run.rules.length ? run.rules[k] : NONE;
            checks.due(name + "witness(" + run.state + ", " + run.stack + ", " + k + ", 0)",
                    lab.witness(run.state, run.number(), k, 0), due);
        }
    }
}
