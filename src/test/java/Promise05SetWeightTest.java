/** Promise 5: setWeight. */
final class Promise05SetWeightTest {
    private static final Checks CHECKS = new Checks("promise 5, setWeight");

    private Promise05SetWeightTest() {
    }

    public static void main(String[] args) {
        new Names(CHECKS, "setWeight").rules((lab, rule) -> lab.setWeight(rule, 20));
        takesWeightsFrom1To20();
        refusesOtherWeights();
        reportsTheFirstError();
        changesOneRuleAlone();
        isAChange();
        isAChangeEvenToTheSame();
        CHECKS.end();
    }

    /** "weight: the new weight, 1 to 20. Returns the previous weight". */
    private static void takesWeightsFrom1To20() {
        StackLab lab = new StackLab();
        lab.addRule(0, 1, 1, 0, 4);
        int before = 4;
        for (int weight : new int[] {20, 1, 19, 2, 20, 10, 1}) {
            CHECKS.due("setWeight(0, " + weight + ")", lab.setWeight(0, weight), before);
            CHECKS.due("rule(0, 4)", lab.rule(0, 4), weight);
            CHECKS.due("distance(1, 0)", lab.distance(1, 0), weight);
            CHECKS.due("price(0, 1, 1)", lab.price(0, 1, 1), weight);
            CHECKS.due("arcWeight(1, 0, 31)", lab.arcWeight(1, 0, 31), weight);
            before = weight;
        }
    }

    /** "BAD_VALUE". */
    private static void refusesOtherWeights() {
        for (int weight : new int[] {0, 21, -1, Integer.MIN_VALUE, Integer.MAX_VALUE}) {
            CHECKS.refused("setWeight(2, " + weight + ")", StackLab.BAD_VALUE, Labs::used,
                    lab -> lab.setWeight(2, weight));
        }
    }

    /** "BAD_NAME; BAD_VALUE": a rule that is not there counts before its weight. */
    private static void reportsTheFirstError() {
        for (int rule : new int[] {-1, 3}) {
            for (int weight : new int[] {0, 21}) {
                CHECKS.refused("setWeight(" + rule + ", " + weight + ")", StackLab.BAD_NAME, Labs::used,
                        lab -> lab.setWeight(rule, weight));
            }
        }
    }

    private static void changesOneRuleAlone() {
        StackLab lab = Labs.withRules(20);
        CHECKS.due("setWeight(19, 1)", lab.setWeight(19, 1), 20);
        CHECKS.due("setWeight(0, 20)", lab.setWeight(0, 20), 1);
        for (int k = 1; k < 19; k++) {
            CHECKS.due("rule(" + k + ", 4)", lab.rule(k, 4), k + 1);
        }
        CHECKS.dueAll("rule 0", Labs.rule(lab, 0), 0, 1, 0, 0, 20);
        CHECKS.dueAll("rule 19", Labs.rule(lab, 19), 0, 1, 1, 23, 1);
    }

    /** "This is a change." */
    private static void isAChange() {
        StackLab lab = Labs.used();
        lab.setWeight(1, 20);
        CHECKS.due("distance(1, 13)", lab.distance(1, 13), 23);
        CHECKS.due("undo()", lab.undo(), 5);
        CHECKS.due("distance(1, 13)", lab.distance(1, 13), 7);
        CHECKS.dueTrue("all is as before", Labs.seen(lab).equals(Labs.seen(Labs.used())));
    }

    private static void isAChangeEvenToTheSame() {
        StackLab lab = Labs.used();
        CHECKS.due("setWeight(1, 4)", lab.setWeight(1, 4), 4);
        CHECKS.due("undo()", lab.undo(), 5);
    }
}
