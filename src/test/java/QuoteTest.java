/** Promise 2: quote. */
public final class QuoteTest {
    public static void main(String[] args) {
        Check check = new Check();
        takesTheEndsOfItsRange(check);
        refusesTheFirstBeyond(check);
        isAQuote(check);
        answersItsNumber(check);
        isThe16th(check);
        isNotThe17th(check);
        check.end();
    }

    private static void takesTheEndsOfItsRange(Check check) {
        check.holds("Promise 2", "A new QUOTE, -100000 .. 100000.");
        double[] taken = {100000, -100000, 99999.875, -99999.875, 0, 0.125, -0.125, 80};
        QuoteGraph graph = new QuoteGraph();
        for (int i = 0; i < taken.length; i++) {
            check.same("quote(" + taken[i] + ")", graph.quote(taken[i]), i);
            check.same("its value", graph.value(i), taken[i]);
        }
        check.same("quote(-0.0)", graph.quote(-0.0), taken.length);
        check.same("exact numbers know one 0", graph.value(taken.length), 0.0);
    }

    private static void refusesTheFirstBeyond(Check check) {
        check.holds("Promise 2", "A new QUOTE, -100000 .. 100000.");
        double[] beyond = {
            100000.125, -100000.125, Math.nextUp(100000.0), Math.nextDown(-100000.0),
            Math.nextDown(100000.0), 1000000, -1000000
        };
        for (double value : beyond) {
            check.bad("quote(" + value + ")", Graphs::lively, graph -> graph.quote(value));
        }
        for (double never : Graphs.neverNumbers()) {
            check.bad("quote(" + never + ")", Graphs::lively, graph -> graph.quote(never));
        }
    }

    private static void isAQuote(Check check) {
        check.holds("Promise 2", "A new QUOTE, -100000 .. 100000.");
        QuoteGraph graph = new QuoteGraph();
        graph.quote(7);
        check.same("the graph", State.of(graph), "counts 1 0 0 0; 0: 0 1 0 0 0 0 = 7.0");
    }

    private static void answersItsNumber(Check check) {
        check.holds("Promise 2", "Answers its number.");
        QuoteGraph graph = new QuoteGraph();
        check.same("the first", graph.quote(1), 0);
        check.same("one more of the same value", graph.quote(1), 1);
        graph.greater(0, 1);
        check.same("behind a greater", graph.quote(1), 3);
        check.bad("a bad one", () -> graph.quote(0.1));
        check.same("behind a bad one", graph.quote(1), 4);
    }

    private static void isThe16th(Check check) {
        check.holds("Promise 2 and Terms", "NODES are numbered 0, 1, .. (at most 16)");
        QuoteGraph graph = Graphs.almostFull();
        check.same("the 16th", graph.quote(-3), 15);
        check.same("its value", graph.value(15), -3.0);
        check.same("count(0)", graph.count(0), 16);
    }

    private static void isNotThe17th(Check check) {
        check.holds("Promise 2 and Terms",
                "16 nodes there and one more to come: IllegalStateException.");
        check.badState("a 17th", Graphs::full, graph -> graph.quote(1));
        check.badState("a 17th of 100000", Graphs::full, graph -> graph.quote(100000));
        check.holds("Promise 2 and Terms", "it comes before other troubles.");
        check.bad("a bad 17th", Graphs::full, graph -> graph.quote(0.1));
        check.bad("a 17th of 100000.125", Graphs::full, graph -> graph.quote(100000.125));
        check.bad("a 17th that is no number", Graphs::full, graph -> graph.quote(Double.NaN));
    }
}
