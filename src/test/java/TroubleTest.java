/** "Terms", on trouble: which comes first, and that a refused call changes nothing. */
public final class TroubleTest {
    public static void main(String[] args) {
        Check check = new Check();
        badCallsChangeNothing(check);
        badStatesChangeNothing(check);
        badIsOneExceptionForAll(check);
        badComesBeforeFull(check);
        badComesBeforeFrozen(check);
        badComesBeforeStale(check);
        badComesBeforeArithmetic(check);
        fullComesOnlyForNewNodes(check);
        valuesStayWhenACallIsRefused(check);
        check.end();
    }

    private static void badCallsChangeNothing(Check check) {
        check.holds("Terms",
                "A method may throw what it lists; then nothing has changed but what is said"
                + " above.");
        check.bad("quote", Graphs::lively, graph -> graph.quote(100000.125));
        check.bad("blend", Graphs::lively, graph -> graph.blend(3, 10, 1, 1));
        check.bad("greater", Graphs::lively, graph -> graph.greater(10, 3));
        check.bad("option", Graphs::lively, graph -> graph.option(0, 1, 0, 80, 21));
        check.bad("terms", Graphs::lively, graph -> graph.terms(5, 8, 1, true, 1));
        check.bad("engine", Graphs::lively, graph -> graph.engine(5, 2, 21));
        check.bad("set", Graphs::lively, graph -> graph.set(0, -100000.125));
        check.bad("value", Graphs::lively, graph -> graph.value(10));
        check.bad("freeze", Graphs::lively, graph -> graph.freeze(0, true));
        check.bad("bump", Graphs::lively, graph -> graph.bump(8, 3, 1));
        check.bad("uses", Graphs::lively, graph -> graph.uses(3, 10));
        check.bad("node", Graphs::lively, graph -> graph.node(3, 6));
    }

    private static void badStatesChangeNothing(Check check) {
        check.holds("Terms",
                "A method may throw what it lists; then nothing has changed but what is said"
                + " above.");
        check.badState("terms", Graphs::lively, graph -> graph.terms(9, 1, 1, true, 1));
        check.badState("engine", Graphs::lively, graph -> graph.engine(9, 2, 20));
        check.badState("freeze", Graphs::lively, graph -> graph.freeze(8, true));
        check.badState("quote", Graphs::full, graph -> graph.quote(1));
        check.badState("blend", Graphs::full, graph -> graph.blend(0, 1, 1, 1));
        check.badState("greater", Graphs::full, graph -> graph.greater(0, 1));
        check.badState("option", Graphs::full, graph -> graph.option(0, 1, 0, 80, 1));
    }

    private static void badIsOneExceptionForAll(Check check) {
        check.holds("Terms",
                "\"Bad\" means IllegalArgumentException, for any number out of range or a node"
                + " that isn't there or is of the wrong sort");
        check.bad("a number out of range", Graphs::lively, graph -> graph.engine(5, 3, 0));
        check.bad("no multiple of 0.125", Graphs::lively, graph -> graph.set(0, 0.0625));
        check.bad("a node that isn't there", Graphs::lively, graph -> graph.greater(0, 10));
        check.bad("a quote for an option", Graphs::lively, graph -> graph.engine(0, 0, 0));
        check.bad("an option for a quote", Graphs::lively, graph -> graph.set(5, 1));
        check.bad("a quote for a derived one", Graphs::lively, graph -> graph.freeze(1, false));
    }

    private static void badComesBeforeFull(Check check) {
        check.holds("Terms", "it comes before other troubles.");
        check.bad("quote", Graphs::full, graph -> graph.quote(-100000.125));
        check.bad("blend", Graphs::full, graph -> graph.blend(0, 1, -16.125, 1));
        check.bad("greater", Graphs::full, graph -> graph.greater(0, 16));
        check.bad("option", Graphs::full, graph -> graph.option(0, 1, -1, 80, 1));
    }

    private static void badComesBeforeFrozen(Check check) {
        check.holds("Terms", "it comes before other troubles.");
        check.bad("terms, rate", Graphs::lively, graph -> graph.terms(9, 9, 8, false, -1));
        check.bad("terms, chance", Graphs::lively, graph -> graph.terms(9, -1, 16, false, -1));
        check.bad("terms, knock", Graphs::lively, graph -> graph.terms(9, -1, 8, false, 10));
        check.bad("engine", Graphs::lively, graph -> graph.engine(9, 3, 0));
        check.bad("engine, size", Graphs::lively, graph -> graph.engine(9, 1, 7));
        check.bad("terms of a frozen greater", Graphs::lively,
                graph -> graph.terms(4, -1, 8, false, -1));
        check.bad("engine of a frozen greater", Graphs::lively, graph -> graph.engine(4, 0, 0));
    }

    private static void badComesBeforeStale(Check check) {
        check.holds("Terms", "it comes before other troubles.");
        check.bad("freeze no node", Graphs::lively, graph -> graph.freeze(10, true));
        check.bad("freeze a quote", Graphs::lively, graph -> graph.freeze(2, true));
    }

    private static void badComesBeforeArithmetic(Check check) {
        check.holds("Terms", "it comes before other troubles.");
        check.bad("bump by too much", Graphs::lively, graph -> graph.bump(6, 0, 1000.125));
        check.bad("bump of no quote", Graphs::lively, graph -> graph.bump(6, 6, 1));
        check.bad("bump of american paths", Graphs::lively, graph -> graph.bump(7, 0, 0.1));
        check.bad("bump of no node", Graphs::lively, graph -> graph.bump(10, 0, 1));
    }

    private static void fullComesOnlyForNewNodes(Check check) {
        check.holds("Terms", "16 nodes there and one more to come: IllegalStateException.");
        QuoteGraph graph = Graphs.almostFull();
        graph.option(0, 1, 3, 0, 1);
        check.badState("a 17th", () -> graph.quote(1));
        graph.terms(15, 14, 8, false, -1);
        graph.engine(15, 0, 0);
        check.same("set(14, 512)", graph.set(14, 512), 0);
        check.same("value(15)", graph.value(15), 40.0);
        check.same("bump(15, 14, 512)", graph.bump(15, 14, 512), -40.0);
        graph.freeze(15, true);
        check.same("uses(15, 14)", graph.uses(15, 14), true);
        check.same("node(15, 2)", graph.node(15, 2), 1);
        check.same("count(0)", graph.count(0), 16);
    }

    /** What a stale node would be worth shows only when it's asked: here after many refusals. */
    private static void valuesStayWhenACallIsRefused(Check check) {
        check.holds("Terms",
                "A method may throw what it lists; then nothing has changed but what is said"
                + " above.");
        QuoteGraph graph = Graphs.lively();
        check.bad("terms", () -> graph.terms(5, 8, 1, true, 1));
        check.bad("engine", () -> graph.engine(5, 1, 7));
        check.badState("terms of a frozen one", () -> graph.terms(9, 1, 1, true, 1));
        check.badState("engine of a frozen one", () -> graph.engine(9, 2, 20));
        check.bad("set", () -> graph.set(0, 0.1));
        check.arithmetic("bump", () -> graph.bump(5, 1, -9));
        check.same("set(0, 88)", graph.set(0, 88), 2);
        check.same("the blend", graph.value(3), 97.0);
        check.same("the option", graph.value(5), 10.5);
        check.same("its user", graph.value(8), 98.5);
        graph.freeze(9, false);
        check.same("the option that was frozen", graph.value(9), 88.0);
        graph.freeze(4, false);
        check.same("the greater that was frozen", graph.value(4), 97.0);
    }
}
