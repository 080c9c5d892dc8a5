/** Counts the answers that are not as due, and ends a test. */
final class Checks {
    private static final int SHOWN = 40;
    private int wrong = 0;
    private long made = 0;

    void due(String call, double got, double want) {
        made++;
        if (Double.compare(got, want) != 0) {
            wrong++;
            if (wrong <= SHOWN) {
                System.out.println(call + " answered " + got + ", due is " + want);
            }
        }
    }

    void dueAll(String call, int[] got, int... want) {
        due(call + ": how many", got.length, want.length);
        for (int k = 0; k < got.length && k < want.length; k++) {
            due(call + " [" + k + "]", got[k], want[k]);
        }
    }

    void dueTrue(String what, boolean got) {
        due(what, got ? 1 : 0, 1);
    }

    void end() {
        System.out.println(made + " answers, " + wrong + " not as due");
        if (wrong != 0 || made == 0) {
            System.exit(1);
        }
    }
}
