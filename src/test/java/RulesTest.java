/** Promises 2 and 13: the rules, and the names that they select. */
public final class RulesTest {
    public static void main(String[] args) {
        noRules();
        firstFittingRuleDecides();
        edgesOfMaskAndValue();
        atMostSix();
        wrongNames();
        Check.finish();
    }

    private static void dueSelected(String what, TreeCarrier x, int... names) {
        boolean[] want = new boolean[12];
        for (int name : names) {
            want[name] = true;
        }
        for (int name = 0; name < 12; name++) {
            Check.due(what + ": selected(" + name + ")", x.selected(name), want[name]);
        }
    }

    private static void noRules() {
        dueSelected("no rules", new TreeCarrier(), 0, 1, 2, 3, 4, 5, 6, 7, 8, 9, 10, 11);
    }

    private static void firstFittingRuleDecides() {
        TreeCarrier x = new TreeCarrier();
        Check.due("rule 1", x.rule(false, 3, 1), true);
        dueSelected("one rule", x, 0, 2, 3, 4, 6, 7, 8, 10, 11);
        Check.due("rule 2", x.rule(true, 8, 8), true);
        dueSelected("an include behind an exclude", x, 0, 2, 3, 4, 6, 7, 8, 10, 11);
        Check.due("rule 3", x.rule(false, 0, 0), true);
        dueSelected("the rest excluded", x, 8, 10, 11);
        Check.due("rule 4", x.rule(true, 0, 0), true);
        dueSelected("too late", x, 8, 10, 11);
    }

    private static void edgesOfMaskAndValue() {
        TreeCarrier x = new TreeCarrier();
        for (int wrong : new int[] {-1, 16, 17, -16, Integer.MIN_VALUE, Integer.MAX_VALUE}) {
            Check.due("mask " + wrong, x.rule(false, wrong, 0), false);
            Check.due("value " + wrong, x.rule(false, 0, wrong), false);
        }
        dueSelected("refused rules", x, 0, 1, 2, 3, 4, 5, 6, 7, 8, 9, 10, 11);
        Check.due("value 15, fits no name", x.rule(false, 15, 15), true);
        Check.due("value not in the mask", x.rule(false, 4, 3), true);
        dueSelected("rules that no name fits", x, 0, 1, 2, 3, 4, 5, 6, 7, 8, 9, 10, 11);
        Check.due("mask 15", x.rule(false, 15, 11), true);
        Check.due("mask 15, value 0", x.rule(false, 15, 0), true);
        dueSelected("single names", x, 1, 2, 3, 4, 5, 6, 7, 8, 9, 10);
        Check.due("rule 5", x.rule(false, 1, 1), true);
        Check.due("rule 6", x.rule(false, 2, 2), true);
        Check.due("refused ones did not count, rule 7", x.rule(false, 0, 0), false);
        dueSelected("six", x, 4, 8);
    }

    private static void atMostSix() {
        TreeCarrier x = new TreeCarrier();
        for (int i = 0; i < 6; i++) {
            Check.due("rule " + i, x.rule(false, 15, i), true);
        }
        Check.due("a seventh rule", x.rule(false, 15, 6), false);
        Check.due("a seventh rule that no name fits", x.rule(true, 15, 15), false);
        dueSelected("six rules", x, 6, 7, 8, 9, 10, 11);
    }

    private static void wrongNames() {
        TreeCarrier x = new TreeCarrier();
        for (int name : new int[] {-1, 12, 15, 16, Integer.MIN_VALUE, Integer.MAX_VALUE}) {
            Check.due("selected(" + name + ")", x.selected(name), false);
        }
        x.rule(true, 0, 0);
        for (int name : new int[] {-1, 12, 15, 16, Integer.MIN_VALUE, Integer.MAX_VALUE}) {
            Check.due("selected(" + name + ") with a rule", x.selected(name), false);
        }
    }
}
