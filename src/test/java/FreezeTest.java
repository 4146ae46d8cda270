/** Promise 10: freeze. */
public final class FreezeTest {
    public static void main(String[] args) {
        Check check = new Check();
        keepsTheValue(check);
        isToldWhenItMissedSomething(check);
        staysValidWhenItMissedNothing(check);
        passesNothingOnToFrozenUsers(check);
        changesNothingTwice(check);
        refusesBadOnes(check);
        check.end();
    }

    private static QuoteGraph chain() {
        QuoteGraph graph = Check.spotAndMove();
        graph.blend(0, 1, 1, 1);
        graph.greater(2, 2);
        graph.value(3);
        return graph;
    }

    private static void keepsTheValue(Check check) {
        QuoteGraph graph = chain();
        graph.freeze(2, true);
        check.same("frozen", graph.node(2, 2), 1);
        check.same("its user isn't", graph.node(3, 2), 0);
        check.same("set(0, 90)", graph.set(0, 90), 0);
        check.same("value(2)", graph.value(2), 88.0);
        check.same("value(3)", graph.value(3), 88.0);
        check.same("valid", graph.node(2, 1), 1);
        check.same("missed", graph.node(2, 3), 1);
    }

    private static void isToldWhenItMissedSomething(Check check) {
        QuoteGraph graph = chain();
        graph.freeze(2, true);
        graph.set(0, 90);
        graph.set(0, 80);
        graph.freeze(2, false);
        check.same("frozen", graph.node(2, 2), 0);
        check.same("missed", graph.node(2, 3), 0);
        check.same("stale, though the quote is as it was", graph.node(2, 1), 0);
        check.same("its user is stale", graph.node(3, 1), 0);
        check.same("count(1)", graph.count(1), 2);
        check.same("value(3)", graph.value(3), 88.0);
        graph.freeze(2, true);
        check.same("missed nothing since it was frozen again", graph.node(2, 3), 0);
        graph.freeze(2, false);
        check.same("valid", graph.node(2, 1), 1);
        check.same("count(1) later", graph.count(1), 2);
    }

    private static void staysValidWhenItMissedNothing(Check check) {
        QuoteGraph graph = chain();
        graph.freeze(2, true);
        graph.set(0, 80);
        graph.freeze(2, false);
        check.same("valid", graph.node(2, 1), 1);
        check.same("count(1)", graph.count(1), 0);
        check.same("set(0, 81)", graph.set(0, 81), 2);
    }

    private static void passesNothingOnToFrozenUsers(Check check) {
        QuoteGraph graph = chain();
        graph.freeze(2, true);
        graph.freeze(3, true);
        graph.set(0, 90);
        check.same("its user missed nothing yet", graph.node(3, 3), 0);
        graph.freeze(2, false);
        check.same("its user missed it now", graph.node(3, 3), 1);
        check.same("count(1)", graph.count(1), 1);
        check.same("value(2)", graph.value(2), 98.0);
        check.same("value(3)", graph.value(3), 88.0);
        graph.freeze(3, false);
        check.same("value(3) when not frozen", graph.value(3), 98.0);
        check.same("count(1) later", graph.count(1), 2);
    }

    private static void changesNothingTwice(Check check) {
        QuoteGraph graph = chain();
        graph.freeze(2, false);
        check.same("never frozen: valid", graph.node(2, 1), 1);
        graph.freeze(2, true);
        graph.set(0, 90);
        graph.freeze(2, true);
        check.same("frozen twice: still missed", graph.node(2, 3), 1);
        graph.freeze(2, false);
        graph.freeze(2, false);
        check.same("count(1)", graph.count(1), 2);
        check.same("stale and never frozen", graph.node(3, 1), 0);
        graph.freeze(3, false);
        check.same("not frozen", graph.node(3, 2), 0);
    }

    private static void refusesBadOnes(Check check) {
        QuoteGraph graph = Check.spotAndMove();
        int stale = graph.blend(0, 1, 1, 1);
        check.badState("freeze a stale one", () -> graph.freeze(stale, true));
        check.same("not frozen", graph.node(stale, 2), 0);
        for (int wrong : new int[] {0, 1, 3, -1, 16, Integer.MIN_VALUE, Integer.MAX_VALUE}) {
            check.bad("freeze(" + wrong + ", true)", () -> graph.freeze(wrong, true));
            check.bad("freeze(" + wrong + ", false)", () -> graph.freeze(wrong, false));
        }
        int o = graph.option(0, 1, 0, 80, 1);
        graph.value(o);
        graph.freeze(o, true);
        check.same("an option can be frozen", graph.node(o, 2), 1);
    }
}
