/** Promise 8: set. */
public final class SetTest {
    public static void main(String[] args) {
        Check check = new Check();
        takesTheEndsOfItsRange(check);
        refusesTheFirstBeyond(check);
        refusesWhatIsNoQuote(check);
        tellsNothingByTheSameValue(check);
        tellsByAnotherValue(check);
        answersHowManyWereToldNow(check);
        answersNoneForFrozenAndStaleOnes(check);
        check.end();
    }

    private static void takesTheEndsOfItsRange(Check check) {
        check.holds("Promise 8", "The QUOTE q gets the value (-100000 .. 100000).");
        QuoteGraph graph = Graphs.spotAndMove();
        double[] taken = {100000, -100000, 99999.875, -99999.875, 0.125, -0.125, 0, 80};
        for (double value : taken) {
            check.same("set(0, " + value + ")", graph.set(0, value), 0);
            check.same("its value", graph.value(0), value);
            check.same("the other quote", graph.value(1), 8.0);
        }
        QuoteGraph full = Graphs.full();
        full.set(15, 5);
        check.same("the 16th node's value", full.value(15), 5.0);
    }

    private static void refusesTheFirstBeyond(Check check) {
        check.holds("Promise 8", "The QUOTE q gets the value (-100000 .. 100000).");
        double[] beyond = {
            100000.125, -100000.125, Math.nextUp(100000.0), Math.nextDown(-100000.0), 1000000
        };
        for (double value : beyond) {
            check.bad("set(0, " + value + ")", Graphs::lively, graph -> graph.set(0, value));
        }
        for (double never : Graphs.neverNumbers()) {
            check.bad("set(0, " + never + ")", Graphs::lively, graph -> graph.set(0, never));
        }
    }

    private static void refusesWhatIsNoQuote(Check check) {
        check.holds("Promise 8 and Terms", "a node that isn't there or is of the wrong sort");
        for (int wrong = 3; wrong <= 9; wrong++) {
            int q = wrong;
            check.bad("set(" + q + ", 1)", Graphs::lively, graph -> graph.set(q, 1));
        }
        for (int gone : Graphs.goneNodes(10)) {
            check.bad("set(" + gone + ", 1)", Graphs::lively, graph -> graph.set(gone, 1));
        }
    }

    private static QuoteGraph withUser(double value) {
        QuoteGraph graph = new QuoteGraph();
        graph.quote(value);
        graph.greater(0, 0);
        graph.value(1);
        return graph;
    }

    private static void tellsNothingByTheSameValue(Check check) {
        check.holds("Promise 8",
                "If it's another one than before, all nodes of which q is a PART are told.");
        for (double value : new double[] {80, 0, -0.125, 100000, -100000}) {
            QuoteGraph graph = withUser(value);
            String before = State.of(graph);
            check.same("set(0, " + value + ") again", graph.set(0, value), 0);
            check.same("the graph", State.of(graph), before);
        }
        QuoteGraph graph = withUser(0);
        check.same("-0.0 is 0", graph.set(0, -0.0), 0);
        check.same("its user is valid", graph.node(1, 1), 1);
        graph.freeze(1, true);
        graph.set(0, 0);
        check.same("a frozen user missed nothing", graph.node(1, 3), 0);
    }

    private static void tellsByAnotherValue(Check check) {
        check.holds("Promise 8",
                "If it's another one than before, all nodes of which q is a PART are told.");
        QuoteGraph graph = withUser(80);
        check.same("set(0, 80.125)", graph.set(0, 80.125), 1);
        check.same("its user is stale", graph.node(1, 1), 0);
        check.same("its user's value", graph.value(1), 80.125);
        check.same("set(0, 80)", graph.set(0, 80), 1);
        check.same("its user's value as before", graph.value(1), 80.0);
        QuoteGraph parts = Graphs.withOption(0, 80, 2);
        parts.terms(2, 3, 8, false, 4);
        for (int q : new int[] {0, 1, 3, 4}) {
            parts.value(2);
            check.same("set(" + q + ", 81)", parts.set(q, 81), 1);
            check.same("the option is stale", parts.node(2, 1), 0);
        }
    }

    private static void answersHowManyWereToldNow(Check check) {
        check.holds("Promise 8", "Answers how many were TOLD now.");
        QuoteGraph graph = Graphs.spotAndMove();
        int left = graph.blend(0, 1, 1, 1);
        int right = graph.blend(0, 0, 1, 1);
        int top = graph.greater(left, right);
        int alone = graph.greater(1, 1);
        graph.value(top);
        graph.value(alone);
        check.same("both and their user, once", graph.set(0, 81), 3);
        check.same("valid", State.valid(graph), "110001");
        check.same("all are stale", graph.set(0, 82), 0);
        graph.value(right);
        check.same("alone only, with left stale", graph.set(1, 9), 1);
        check.same("right only, with top stale", graph.set(0, 83), 1);
        check.same("count(1)", graph.count(1), 5);
        check.same("value(top)", graph.value(top), 166.0);
    }

    private static void answersNoneForFrozenAndStaleOnes(Check check) {
        check.holds("Promise 8", "Answers how many were TOLD now.");
        QuoteGraph graph = withUser(80);
        int top = graph.greater(1, 1);
        int beside = graph.greater(0, 0);
        check.same("top is stale", graph.set(0, 81), 1);
        graph.value(top);
        graph.value(beside);
        graph.freeze(1, true);
        check.same("beside alone", graph.set(0, 82), 1);
        check.same("the frozen one missed it", graph.node(1, 3), 1);
        check.same("top is valid", graph.node(top, 1), 1);
        check.same("none", graph.set(0, 83), 0);
        check.same("the quote has its value nevertheless", graph.value(0), 83.0);
    }
}
