/** Promise 2: quote. */
public final class QuoteTest {
    public static void main(String[] args) {
        Check check = new Check();
        takesNumbersInRange(check);
        refusesOthers(check);
        has16Nodes(check);
        check.end();
    }

    private static void takesNumbersInRange(Check check) {
        QuoteGraph graph = new QuoteGraph();
        double[] taken = {0, 0.125, -0.125, 80, 100000, -100000, 99999.875, -99999.875};
        for (int i = 0; i < taken.length; i++) {
            check.same("quote(" + taken[i] + ")", graph.quote(taken[i]), i);
            check.same("its value", graph.value(i), taken[i]);
            check.same("its sort", graph.node(i, 0), 0);
        }
        check.same("quote(-0.0)", graph.quote(-0.0), taken.length);
        check.same("exact numbers know one 0", graph.value(taken.length), 0.0);
        check.same("count(0)", graph.count(0), taken.length + 1);
    }

    private static void refusesOthers(Check check) {
        QuoteGraph graph = new QuoteGraph();
        graph.quote(1);
        for (double never : Check.neverNumbers()) {
            check.bad("quote(" + never + ")", () -> graph.quote(never));
        }
        check.bad("quote(100000.125)", () -> graph.quote(100000.125));
        check.bad("quote(-100000.125)", () -> graph.quote(-100000.125));
        check.bad("quote(99999.9375)", () -> graph.quote(99999.9375));
        check.same("count(0) after bad ones", graph.count(0), 1);
        check.same("quote(2) after bad ones", graph.quote(2), 1);
    }

    private static void has16Nodes(Check check) {
        QuoteGraph graph = new QuoteGraph();
        for (int i = 0; i < 16; i++) {
            check.same("quote(" + i + ")", graph.quote(i), i);
        }
        check.badState("a 17th quote", () -> graph.quote(1));
        check.bad("a bad 17th quote", () -> graph.quote(0.1));
        check.same("count(0)", graph.count(0), 16);
        check.same("value(15)", graph.value(15), 15.0);
    }
}
