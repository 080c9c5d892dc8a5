/**
 * A system with a run whose weight is just 1000000. Found by a search: of the runs that remove the symbol
 * 4 from state 1 to state 0 one is the lightest, whatever the weights are. It has 512177 rules, the rule
 * LAST only once and at its end, so that the weight of this rule sets the weight of the run to the unit.
 */
final class Limit {
    static final int WEIGHT = 1000000;
    static final int RULES = 512177;
    static final int LAST = 2;
    static final int STATE = 1;
    static final int SYMBOL = 4;
    /** With 4 removed, this symbol is on top in state 0, where it is never before. */
    static final int BELOW = 5;
    /** The first rules of the run. */
    static final int[] FIRST = {13, 0, 9, 4};

    /** p, X, q, word and weight of 19 rules: there is room for one more. */
    private static final int[][] SYSTEM = {{3, 3, 1, 51, 3}, {0, 3, 2, 32, 2}, {2, 5, 0, 0, 7}, {2, 1, 3, 11, 2},
        {2, 1, 3, 23, 6}, {2, 3, 2, 52, 3}, {1, 3, 0, 31, 1}, {3, 4, 0, 13, 1}, {3, 1, 1, 0, 2}, {1, 5, 2, 11, 3},
        {2, 5, 2, 22, 1}, {0, 1, 0, 33, 1}, {1, 2, 1, 44, 1}, {1, 4, 3, 31, 2}, {2, 2, 1, 45, 3}, {1, 1, 3, 0, 1},
        {3, 5, 2, 0, 3}, {2, 2, 3, 22, 9}, {3, 2, 3, 44, 1}};

    /** Found by a search, too: with these weights it costs 1000000 to remove SIX from state 0 to state 0. */
    private static final int[][] SYSTEM_OF_SIX = {{1, 4, 3, 0, 20}, {0, 5, 0, 23, 18}, {3, 5, 0, 34, 17},
        {2, 2, 2, 11, 15}, {0, 1, 3, 11, 20}, {3, 4, 1, 0, 16}, {1, 3, 0, 35, 19}, {1, 2, 1, 54, 17}, {3, 2, 0, 0, 16},
        {0, 4, 1, 25, 18}, {0, 1, 1, 12, 19}, {1, 2, 0, 53, 19}, {0, 2, 3, 13, 18}, {0, 3, 2, 21, 19},
        {2, 1, 2, 51, 18}, {3, 1, 0, 33, 19}, {0, 2, 2, 0, 10}, {2, 5, 0, 11, 18}, {1, 5, 3, 44, 16},
        {1, 1, 0, 44, 15}};
    /** Six symbols, each of which costs far less. */
    static final int SIX = 223233;
    private static final int USED_ONCE = 16;

    private Limit() {
    }

    private static Reference systemOf(int[][] rules) {
        Reference system = new Reference(4, 5, WEIGHT);
        for (int[] rule : rules) {
            system.rules.add(rule.clone());
        }
        return system;
    }

    /** The system with a run of this weight, started in state 1 with this stack. */
    static Reference reference(int weight, int start) {
        return systemOf(SYSTEM).raised(LAST, weight - WEIGHT).startingAt(STATE, Reference.digits(start));
    }

    /** The system in which it costs this much to remove SIX. */
    static Reference referenceOfSix(int weight) {
        return systemOf(SYSTEM_OF_SIX).raised(USED_ONCE, weight - WEIGHT);
    }

    /** Started with 4 alone: the empty stack is reached with this weight. */
    static StackLab toEmptyStack(int weight) {
        return reference(weight, SYMBOL).makeLab();
    }

    /** Started with 45: 5 is reached with this weight. */
    static StackLab toBelow(int weight) {
        return reference(weight, SYMBOL * 10 + BELOW).makeLab();
    }
}
