/** Promise 4: greater. */
public final class GreaterTest {
    public static void main(String[] args) {
        Check check = new Check();
        takesTheGreater(check);
        isAGreater(check);
        refusesNodesThatAreNotThere(check);
        answersItsNumber(check);
        isThe16th(check);
        isNotThe17th(check);
        check.end();
    }

    private static void takesTheGreater(Check check) {
        check.holds("Promise 4 and Terms", "Of a GREATER of a and b: the greater of both.");
        double[][] due = {
            {3, 2, 3}, {2, 3, 3}, {-3, -2.875, -2.875}, {-2.875, -3, -2.875}, {5, 5, 5},
            {0, -0.125, 0}, {-0.125, 0, 0}, {-100000, 100000, 100000}, {-100000, -100000, -100000}
        };
        for (double[] row : due) {
            QuoteGraph graph = new QuoteGraph();
            graph.quote(row[0]);
            graph.quote(row[1]);
            int n = graph.greater(0, 1);
            check.same("of " + row[0] + " and " + row[1], graph.value(n), row[2]);
        }
        QuoteGraph graph = Graphs.largeAndSmall();
        int more = graph.blend(0, 4, 10, -1);
        int most = graph.blend(0, 4, 10, 0);
        check.same("1/1024 apart", graph.value(graph.greater(more, most)), 1000000.0);
        check.same("of one node", graph.value(graph.greater(more, more)), 1000000 - Graphs.UNIT);
    }

    private static void isAGreater(Check check) {
        check.holds("Promise 4", "A new GREATER of the nodes a and b.");
        QuoteGraph graph = Graphs.spotAndMove();
        graph.greater(1, 1);
        check.same("the graph", State.of(graph),
                "counts 3 0 0 0; 0: 0 1 0 0 0 0 = 80.0; 1: 0 1 0 0 0 0 = 8.0; 2: 2 0 0 0 2 0");
        check.same("uses(2, 0)", graph.uses(2, 0), false);
        check.same("uses(2, 1)", graph.uses(2, 1), true);
    }

    private static void refusesNodesThatAreNotThere(Check check) {
        check.holds("Promise 4", "A new GREATER of the nodes a and b.");
        for (int gone : Graphs.goneNodes(10)) {
            check.bad("a " + gone, Graphs::lively, graph -> graph.greater(gone, 1));
            check.bad("b " + gone, Graphs::lively, graph -> graph.greater(0, gone));
        }
    }

    private static void answersItsNumber(Check check) {
        check.holds("Promise 4", "Answers its number.");
        QuoteGraph graph = Graphs.spotAndMove();
        check.same("the third node", graph.greater(0, 1), 2);
        check.bad("a bad one", () -> graph.greater(0, 3));
        check.same("a greater of a greater", graph.greater(2, 2), 3);
    }

    private static void isThe16th(Check check) {
        check.holds("Promise 4 and Terms", "NODES are numbered 0, 1, .. (at most 16)");
        QuoteGraph graph = Graphs.almostFull();
        check.same("the 16th", graph.greater(14, 1), 15);
        check.same("its value", graph.value(15), 8.0);
    }

    private static void isNotThe17th(Check check) {
        check.holds("Promise 4 and Terms",
                "16 nodes there and one more to come: IllegalStateException.");
        check.badState("a 17th", Graphs::full, graph -> graph.greater(0, 15));
        check.holds("Promise 4 and Terms", "it comes before other troubles.");
        check.bad("a 17th on itself", Graphs::full, graph -> graph.greater(16, 1));
        check.bad("a 17th on no node", Graphs::full, graph -> graph.greater(0, -1));
    }
}
