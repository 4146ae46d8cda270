/** Promise 1: a new object. */
public final class NewObjectTest {
    public static void main(String[] args) {
        Check check = new Check();
        countsNothing(check);
        refusesEveryNode(check);
        takesAQuoteFirst(check);
        sharesNothingWithOthers(check);
        check.end();
    }

    private static void countsNothing(Check check) {
        check.holds("Promise 1", "No nodes.");
        QuoteGraph graph = new QuoteGraph();
        for (int what = 0; what <= 3; what++) {
            check.same("count(" + what + ")", graph.count(what), 0);
        }
        check.same("count(4)", graph.count(4), -1);
        check.same("count(-1)", graph.count(-1), -1);
    }

    /** What the other calls answer on a new object: a node that isn't there is bad. */
    private static void refusesEveryNode(Check check) {
        check.holds("Promise 1", "No nodes.");
        for (int n : Graphs.goneNodes(0)) {
            check.bad("blend " + n, Graphs::empty, graph -> graph.blend(n, n, 1, 1));
            check.bad("greater " + n, Graphs::empty, graph -> graph.greater(n, n));
            check.bad("option " + n, Graphs::empty, graph -> graph.option(n, n, 0, 0, 1));
            check.bad("terms " + n, Graphs::empty, graph -> graph.terms(n, -1, 8, false, -1));
            check.bad("engine " + n, Graphs::empty, graph -> graph.engine(n, 0, 0));
            check.bad("set " + n, Graphs::empty, graph -> graph.set(n, 1));
            check.bad("value " + n, Graphs::empty, graph -> graph.value(n));
            check.bad("freeze " + n, Graphs::empty, graph -> graph.freeze(n, true));
            check.bad("not freeze " + n, Graphs::empty, graph -> graph.freeze(n, false));
            check.bad("bump " + n, Graphs::empty, graph -> graph.bump(n, n, 0));
            check.bad("uses " + n, Graphs::empty, graph -> graph.uses(n, n));
            check.bad("node " + n, Graphs::empty, graph -> graph.node(n, 0));
        }
    }

    private static void takesAQuoteFirst(Check check) {
        check.holds("Promise 1", "No nodes.");
        QuoteGraph graph = new QuoteGraph();
        check.same("quote(5)", graph.quote(5), 0);
        check.same("value(0)", graph.value(0), 5.0);
        check.same("count(0)", graph.count(0), 1);
        check.bad("value(1)", () -> graph.value(1));
    }

    private static void sharesNothingWithOthers(Check check) {
        check.holds("Promise 1", "No nodes.");
        QuoteGraph first = Graphs.lively();
        String before = State.of(first);
        QuoteGraph second = new QuoteGraph();
        check.same("nodes of another new one", second.count(0), 0);
        second.quote(3);
        second.blend(0, 0, 1, 1);
        check.same("the other's value", second.value(1), 6.0);
        check.same("the first one", State.of(first), before);
    }
}
