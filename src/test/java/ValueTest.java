/** Promise 9: value; AskingTest has the sentences of "Terms" about asking. */
public final class ValueTest {
    public static void main(String[] args) {
        Check check = new Check();
        asksEachSort(check);
        refusesNodesThatAreNotThere(check);
        throwsWhatGoesWrong(check);
        throwsAgainUntilItIsMended(check);
        goesAsDeepAsThereAreNodes(check);
        check.end();
    }

    private static void asksEachSort(Check check) {
        check.holds("Promise 9", "Asks node n.");
        QuoteGraph graph = Graphs.lively();
        check.same("a quote", graph.value(0), 80.0);
        check.same("a valid blend", graph.value(3), 89.0);
        check.same("a frozen greater", graph.value(4), 88.0);
        check.same("a valid option", graph.value(5), 4.5);
        check.same("a stale blend", graph.value(8), 84.5);
        check.same("a frozen option", graph.value(9), 80.0);
        check.same("worked out", State.worked(graph), "0002110011");
    }

    private static void refusesNodesThatAreNotThere(Check check) {
        check.holds("Promise 9 and Terms", "a node that isn't there");
        for (int gone : Graphs.goneNodes(10)) {
            check.bad("value(" + gone + ")", Graphs::lively, graph -> graph.value(gone));
        }
        for (int gone : Graphs.goneNodes(16)) {
            check.bad("value(" + gone + ") of 16", Graphs::full, graph -> graph.value(gone));
        }
        check.same("value(15) of 16", Graphs.full().value(15), 1.0);
    }

    private static void throwsWhatGoesWrong(Check check) {
        check.holds("Promise 9 and Terms", "u must be above 0 (else ArithmeticException)");
        QuoteGraph still = check.arithmetic("value(6)", Graphs::lively, graph -> graph.value(6));
        check.same("valid", State.valid(still), "1111110001");
        check.same("worked out", State.worked(still), "0002110001");
        check.holds("Promise 9 and Terms", "AMERICAN: UnsupportedOperationException");
        QuoteGraph early = check.unsupported("value(7)", Graphs::lively, graph -> graph.value(7));
        check.same("valid", State.valid(early), "1111110001");
        check.same("worked out", State.worked(early), "0002110001");
    }

    private static void throwsAgainUntilItIsMended(Check check) {
        check.holds("Promise 9 and Terms", "u must be above 0 (else ArithmeticException)");
        QuoteGraph graph = Graphs.lively();
        for (int times = 1; times <= 3; times++) {
            check.arithmetic("value(6)", () -> graph.value(6));
            check.same("count(3)", graph.count(3), times);
        }
        check.same("nobody is told, for it is stale", graph.set(2, 8), 0);
        check.same("value(6) by a move of 8", graph.value(6), 4.0);
        check.same("count(3) later", graph.count(3), 3);
    }

    private static void goesAsDeepAsThereAreNodes(Check check) {
        check.holds("Promise 9", "Asks node n.");
        QuoteGraph graph = new QuoteGraph();
        graph.quote(1);
        for (int n = 1; n < 15; n++) {
            graph.greater(n - 1, n - 1);
        }
        int top = graph.option(14, 14, 3, 0, 1);
        graph.terms(top, 14, 8, false, -1);
        check.same("value(top)", graph.value(top), 0.9990234375);
        check.same("count(2)", graph.count(2), 15);
        check.same("uses(top, 0)", graph.uses(top, 0), true);
        check.same("bump(top, 0, 1)", graph.bump(top, 0, 1), 0.9970703125);
        check.same("set(0, 3)", graph.set(0, 3), 15);
    }
}
