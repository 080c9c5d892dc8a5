/** Names at the bounds that the document sets for them, and the ones just beyond. */
final class Names {
    private static final int LEAST = Integer.MIN_VALUE;
    private static final int MOST = Integer.MAX_VALUE;

    /** A call with one of its arguments open. */
    interface Call {
        double answer(StackLab lab, int argument);
    }

    private final Checks checks;
    private final String call;

    Names(Checks checks, String call) {
        this.checks = checks;
        this.call = call;
    }

    /** "There are S states, 0 to S - 1". */
    void states(Call open) {
        for (int states = 1; states <= 4; states++) {
            for (int p = 0; p < states; p++) {
                taken(states, 3, open, p);
            }
            for (int p : new int[] {-1, states, LEAST, MOST}) {
                refused(states, 3, open, p);
            }
        }
    }

    /** "There are .. G symbols, 1 to G". */
    void symbols(Call open) {
        for (int symbols = 1; symbols <= 5; symbols++) {
            for (int x = 1; x <= symbols; x++) {
                taken(2, symbols, open, x);
            }
            for (int x : new int[] {0, -1, symbols + 1, 11, LEAST, MOST}) {
                refused(2, symbols, open, x);
            }
        }
    }

    /**
     * "A number is no word if one of its digits is 0 or greater than G (0 itself is the empty word),
     * or if it is negative", and a word is refused if it "has too many or too few symbols".
     */
    void words(int fewest, int most, Call open) {
        for (int symbols = 1; symbols <= 5; symbols++) {
            for (int length = fewest; length <= most; length++) {
                taken(2, symbols, open, repeated(1, length));
                taken(2, symbols, open, repeated(symbols, length));
            }
            for (int length = 1; length <= most; length++) {
                wordsWithOneBadDigit(symbols, length, open);
                refused(2, symbols, open, -repeated(1, length));
            }
            refused(2, symbols, open, repeated(1, most + 1));
            refused(2, symbols, open, repeated(symbols, most + 1));
            for (int word : new int[] {1111111111, 2111111111, 1000000000, MOST, LEAST, -1}) {
                refused(2, symbols, open, word);
            }
        }
        if (fewest > 0) {
            refused(2, 3, open, 0);
        }
    }

    private void wordsWithOneBadDigit(int symbols, int length, Call open) {
        int place = 1;
        for (int k = 0; k < length; k++) {
            refused(2, symbols, open, repeated(1, length) + symbols * place);
            refused(2, symbols, open, repeated(1, length) + 8 * place);
            if (k < length - 1) {
                refused(2, symbols, open, repeated(1, length) - place);
            }
            place *= 10;
        }
    }

    /** Rules are "numbered from 0", and their numbers end before how many there are. */
    void rules(Call open) {
        for (int many : new int[] {0, 1, 2, 20}) {
            for (int rule = 0; rule < many; rule++) {
                double got = open.answer(Labs.withRules(many), rule);
                checks.dueTrue(call + " takes the rule " + rule + " of " + many, got != StackLab.BAD_NAME);
            }
            for (int rule : new int[] {-1, many, 20, LEAST, MOST}) {
                checks.refused(call + " with the rule " + rule + " of " + many, StackLab.BAD_NAME,
                        () -> Labs.withRules(many), lab -> open.answer(lab, rule));
            }
        }
    }

    private static int repeated(int digit, int length) {
        int word = 0;
        for (int k = 0; k < length; k++) {
            word = word * 10 + digit;
        }
        return word;
    }

    private void taken(int states, int symbols, Call open, int argument) {
        double got = open.answer(Labs.sized(states, symbols), argument);
        checks.dueTrue(call + " takes " + argument + " with S = " + states + " and G = " + symbols,
                got != StackLab.BAD_NAME);
    }

    private void refused(int states, int symbols, Call open, int argument) {
        checks.refused(call + " with " + argument + ", S = " + states + " and G = " + symbols, StackLab.BAD_NAME,
                () -> Labs.sized(states, symbols), lab -> open.answer(lab, argument));
    }
}
