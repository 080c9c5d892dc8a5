/** Promise 8: told. */
final class Promise08ToldTest {
    private static final Checks CHECKS = new Checks("promise 8, told");

    private Promise08ToldTest() {
    }

    public static void main(String[] args) {
        takesNumbersFrom0To7();
        tellsTheLeast();
        tellsTheMost();
        tellsTheKindsOfRules();
        followsChanges();
        CHECKS.end();
    }

    /** "what: 0 S, .. 7 of pushes. Returns this; BAD_VALUE". */
    private static void takesNumbersFrom0To7() {
        CHECKS.dueAll("told", Labs.told(Labs.used()), 2, 3, 3, 0, 13, 1, 1, 1);
        for (int what : new int[] {-1, 8, Integer.MIN_VALUE, Integer.MAX_VALUE}) {
            CHECKS.refused("told(" + what + ")", StackLab.BAD_VALUE, Labs::used, lab -> lab.told(what));
        }
    }

    private static void tellsTheLeast() {
        StackLab lab = new StackLab();
        lab.begin(1, 1);
        CHECKS.dueAll("told", Labs.told(lab), 1, 1, 0, 0, 1, 0, 0, 0);
    }

    private static void tellsTheMost() {
        StackLab lab = new StackLab();
        lab.begin(4, 5);
        lab.setStart(3, 5555);
        CHECKS.dueAll("told", Labs.told(lab), 4, 5, 0, 3, 5555, 0, 0, 0);
    }

    /** "A rule with the empty word is called a pop, with one symbol a swap, with two a push." */
    private static void tellsTheKindsOfRules() {
        int[] words = {0, 1, 15};
        for (int kind = 0; kind < 3; kind++) {
            StackLab lab = new StackLab();
            lab.begin(4, 5);
            int[] due = {4, 5, 0, 0, 1, 0, 0, 0};
            for (int k = 0; k < 20; k++) {
                CHECKS.dueAll("told after " + k, Labs.told(lab), due);
                lab.addRule(k % 4, 1 + k / 4, 0, words[kind], 1);
                due[2]++;
                due[5 + kind]++;
            }
            CHECKS.dueAll("told after 20", Labs.told(lab), due);
        }
    }

    private static void followsChanges() {
        StackLab lab = Labs.used();
        lab.removeRule(0);
        CHECKS.dueAll("told", Labs.told(lab), 2, 3, 2, 0, 13, 1, 1, 0);
        lab.load();
        CHECKS.dueAll("told", Labs.told(lab), 2, 3, 1, 0, 13, 0, 0, 1);
        lab.setStart(1, 2);
        CHECKS.dueAll("told", Labs.told(lab), 2, 3, 1, 1, 2, 0, 0, 1);
    }
}
