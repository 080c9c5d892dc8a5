/** Systems with one rule for each state and symbol, so that there is just one run, which may be long. */
final class Chains {
    /** A start in state p that is emptied in this many steps: steps, p, stack. */
    private static final int[][] STARTS = {{299, 0, 134}, {300, 0, 1134}, {301, 1, 134}, {302, 1, 1134},
        {4999, 3, 5}};

    private Chains() {
    }

    /**
     * Each pair of a state and a symbol pushes the pair before it over the last one in state 0 before it;
     * the first one is a pop. All end in state 0: in state 0 the symbols 1 to 5 are removed in 1, 9, 49,
     * 249 and 1249 steps; in state 1 the symbol 1 in 3; in state 3 the symbol 5 in 4999.
     */
    static Reference withSteps(int steps) {
        Reference system = new Reference(4, 5, Limit.WEIGHT);
        int before = 0;
        int inStateZero = 0;
        for (int x = 1; x <= 5; x++) {
            for (int p = 0; p < 4; p++) {
                int word = before == 0 ? 0 : before % 10 * 10 + inStateZero;
                system.rules.add(new int[] {p, x, before / 10, word, 1 + (x + p) % 20});
                before = p * 10 + x;
                inStateZero = p == 0 ? x : inStateZero;
            }
        }
        for (int[] start : STARTS) {
            if (start[0] == steps) {
                return system.startingAt(start[1], Reference.digits(start[2]));
            }
        }
        throw new IllegalArgumentException("no start with so many steps");
    }

    /** The number of the only rule that can be applied. */
    static int ruleFor(int state, int symbol) {
        return (symbol - 1) * 4 + state;
    }
}
