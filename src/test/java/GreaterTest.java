/** Promise 4: greater. */
public final class GreaterTest {
    public static void main(String[] args) {
        Check check = new Check();
        takesTheGreater(check);
        refusesBadOnes(check);
        check.end();
    }

    private static void takesTheGreater(Check check) {
        QuoteGraph graph = new QuoteGraph();
        graph.quote(-3);
        graph.quote(-2.875);
        check.same("greater(0, 1)", graph.greater(0, 1), 2);
        check.same("greater(1, 0)", graph.greater(1, 0), 3);
        check.same("greater(0, 0)", graph.greater(0, 0), 4);
        check.same("value(2)", graph.value(2), -2.875);
        check.same("value(3)", graph.value(3), -2.875);
        check.same("value(4)", graph.value(4), -3.0);
        check.same("sort", graph.node(2, 0), 2);
        check.same("parts", graph.node(4, 4), 2);
        check.same("set(0, 5)", graph.set(0, 5), 3);
        check.same("value(2) after set", graph.value(2), 5.0);
        check.same("value(3) after set", graph.value(3), 5.0);
    }

    private static void refusesBadOnes(Check check) {
        QuoteGraph graph = Check.spotAndMove();
        for (int gone : new int[] {-1, 2, 16, Integer.MIN_VALUE, Integer.MAX_VALUE}) {
            check.bad("a " + gone, () -> graph.greater(gone, 1));
            check.bad("b " + gone, () -> graph.greater(0, gone));
        }
        check.same("count(0) after bad ones", graph.count(0), 2);
        QuoteGraph full = Check.full();
        check.badState("a 17th node", () -> full.greater(0, 1));
        check.bad("a 17th node on itself", () -> full.greater(16, 1));
    }
}
