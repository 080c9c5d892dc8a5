import java.util.Random;

/**
 * Random systems, each answer against the Reference. With an argument, the class under test has been
 * compiled with this limit in place of 1000000.
 */
final class RandomTest {
    private static final int SYSTEMS = 400;

    private final Random random = new Random(20261118);
    private final int limit;

    private RandomTest(int limit) {
        this.limit = limit;
    }

    public static void main(String[] args) {
        RandomTest test = new RandomTest(args.length == 0 ? 1000000 : Integer.parseInt(args[0]));
        Checks checks = new Checks("random systems");
        for (int k = 0; k < SYSTEMS; k++) {
            new SystemChecks(checks, test.random, test.makeSystem(k), "system " + k).checkAll();
        }
        checks.end();
    }

    private int pick(int least, int most) {
        return least + random.nextInt(most - least + 1);
    }

    private int pickWord(int least, int most, int symbols) {
        int word = 0;
        for (int k = pick(least, most); k > 0; k--) {
            word = word * 10 + pick(1, symbols);
        }
        return word;
    }

    private Reference makeSystem(int k) {
        Reference system = new Reference(pick(1, 4), pick(1, 5), limit);
        int heaviest = k % 4 == 0 ? 20 : k % 4 == 1 ? 1 : 3;
        int pushes = pick(0, 2);
        for (int tries = pick(0, 22); tries > 0 && system.rules.size() < 20; tries--) {
            int longest = random.nextInt(3) < pushes ? 2 : 1;
            int[] rule = {pick(0, system.states - 1), pick(1, system.symbols), pick(0, system.states - 1),
                pickWord(0, longest, system.symbols), pick(1, heaviest)};
            if (!system.holds(rule)) {
                system.rules.add(rule);
            }
        }
        system.startState = pick(0, system.states - 1);
        system.start = Reference.digits(pickWord(1, k % 3 == 0 ? 4 : 2, system.symbols));
        return system;
    }
}
