import java.util.function.Supplier;
import java.util.function.ToDoubleFunction;

/** Counts the answers that are not as due, and ends a test. */
final class Checks {
    private static final int SHOWN = 40;
    private final String title;
    private int wrong = 0;
    private long made = 0;

    Checks(String title) {
        this.title = title;
    }

    void due(String call, double got, double want) {
        made++;
        if (Double.compare(got, want) != 0) {
            wrong++;
            if (wrong <= SHOWN) {
                System.out.println(title + ": " + call + " answered " + got + ", due is " + want);
            }
        }
    }

    void dueAll(String call, int[] got, int... want) {
        due(call + ": how many", got.length, want.length);
        for (int k = 0; k < got.length && k < want.length; k++) {
            due(call + " [" + k + "]", got[k], want[k]);
        }
    }

    void dueTrue(String what, boolean got) {
        due(what, got ? 1 : 0, 1);
    }

    /** "A call that reports an error changes nothing": the object is held against one without the call. */
    void refused(String call, double error, Supplier<StackLab> make, ToDoubleFunction<StackLab> refusal) {
        StackLab asked = make.get();
        due(call, refusal.applyAsDouble(asked), error);
        String seen = Labs.seen(asked);
        String before = Labs.seen(make.get());
        dueTrue(call + " changes nothing, but " + before + " became " + seen, seen.equals(before));
    }

    void end() {
        System.out.println(made + " answers, " + wrong + " not as due");
        if (wrong != 0 || made == 0) {
            System.exit(1);
        }
    }
}
