/** Promise 3: blend. */
public final class BlendTest {
    public static void main(String[] args) {
        Check check = new Check();
        weighsItsParts(check);
        roundsTheSum(check);
        isABlend(check);
        refusesNodesThatAreNotThere(check);
        takesTheEndsOfItsWeights(check);
        refusesTheFirstBeyond(check);
        answersItsNumber(check);
        isThe16th(check);
        isNotThe17th(check);
        check.end();
    }

    private static void weighsItsParts(Check check) {
        check.holds("Promise 3 and Terms",
                "The value of a BLEND of a and b with weights x, y: ROUNDED(x a + y b).");
        QuoteGraph graph = Graphs.spotAndMove();
        check.same("0.5 80 - 2 8", graph.value(graph.blend(0, 1, 0.5, -2)), 24.0);
        check.same("24 + 0.125 80", graph.value(graph.blend(2, 0, 1, 0.125)), 34.0);
        check.same("one node twice", graph.value(graph.blend(1, 1, 16, -15)), 8.0);
        check.same("weights of 0", graph.value(graph.blend(0, 1, 0, 0)), 0.0);
    }

    private static void roundsTheSum(Check check) {
        check.holds("Promise 3 and Terms",
                "The value of a BLEND of a and b with weights x, y: ROUNDED(x a + y b).");
        QuoteGraph graph = Graphs.largeAndSmall();
        int sum = graph.blend(3, 3, 0.125, 0.125);
        check.same("1/4096 + 1/4096, rounded once", graph.value(sum), Graphs.UNIT);
        int difference = graph.blend(3, 3, 0.25, -0.25);
        check.same("1/2048 - 1/2048, rounded once", graph.value(difference), 0.0);
    }

    private static void isABlend(Check check) {
        check.holds("Promise 3", "A new BLEND of the nodes a and b");
        QuoteGraph graph = Graphs.spotAndMove();
        graph.blend(0, 0, 1, 1);
        check.same("the graph", State.of(graph),
                "counts 3 0 0 0; 0: 0 1 0 0 0 0 = 80.0; 1: 0 1 0 0 0 0 = 8.0; 2: 1 0 0 0 2 0");
        check.same("uses(2, 0)", graph.uses(2, 0), true);
        check.same("uses(2, 1)", graph.uses(2, 1), false);
    }

    private static void refusesNodesThatAreNotThere(Check check) {
        check.holds("Promise 3", "A new BLEND of the nodes a and b");
        for (int gone : Graphs.goneNodes(10)) {
            check.bad("a " + gone, Graphs::lively, graph -> graph.blend(gone, 1, 1, 1));
            check.bad("b " + gone, Graphs::lively, graph -> graph.blend(0, gone, 1, 1));
        }
    }

    private static void takesTheEndsOfItsWeights(Check check) {
        check.holds("Promise 3", "weights -16 .. 16.");
        double[][] due = {
            {16, 0, 1280}, {-16, 0, -1280}, {0, 16, 128}, {0, -16, -128}, {16, 16, 1408},
            {-16, -16, -1408}, {15.875, -15.875, 1143}, {0.125, -0.125, 9}, {-0.0, 0, 0}
        };
        for (double[] row : due) {
            QuoteGraph graph = Graphs.spotAndMove();
            int n = graph.blend(0, 1, row[0], row[1]);
            check.same("weights " + row[0] + ", " + row[1], graph.value(n), row[2]);
        }
    }

    private static void refusesTheFirstBeyond(Check check) {
        check.holds("Promise 3", "weights -16 .. 16.");
        double[] beyond = {16.125, -16.125, Math.nextUp(16.0), Math.nextDown(-16.0), 17, 100000};
        for (double weight : beyond) {
            check.bad("x " + weight, Graphs::lively, graph -> graph.blend(0, 1, weight, 1));
            check.bad("y " + weight, Graphs::lively, graph -> graph.blend(0, 1, 1, weight));
        }
        for (double never : Graphs.neverNumbers()) {
            check.bad("x " + never, Graphs::lively, graph -> graph.blend(0, 1, never, 1));
            check.bad("y " + never, Graphs::lively, graph -> graph.blend(0, 1, 1, never));
        }
    }

    private static void answersItsNumber(Check check) {
        check.holds("Promise 3", "Answers its number.");
        QuoteGraph graph = Graphs.spotAndMove();
        check.same("the third node", graph.blend(0, 1, 1, 1), 2);
        check.bad("a bad one", () -> graph.blend(0, 1, 1, 17));
        check.same("a blend of a blend", graph.blend(2, 2, 1, 1), 3);
    }

    private static void isThe16th(Check check) {
        check.holds("Promise 3 and Terms", "NODES are numbered 0, 1, .. (at most 16)");
        QuoteGraph graph = Graphs.almostFull();
        check.same("the 16th", graph.blend(0, 14, 1, 1), 15);
        check.same("its value", graph.value(15), 81.0);
    }

    private static void isNotThe17th(Check check) {
        check.holds("Promise 3 and Terms",
                "16 nodes there and one more to come: IllegalStateException.");
        check.badState("a 17th", Graphs::full, graph -> graph.blend(0, 15, 1, 1));
        check.holds("Promise 3 and Terms", "it comes before other troubles.");
        check.bad("a 17th with a bad x", Graphs::full, graph -> graph.blend(0, 1, 16.125, 1));
        check.bad("a 17th with a bad y", Graphs::full, graph -> graph.blend(0, 1, 1, 0.1));
        check.bad("a 17th on itself", Graphs::full, graph -> graph.blend(0, 16, 1, 1));
        check.bad("a 17th on no node", Graphs::full, graph -> graph.blend(-1, 0, 1, 1));
    }
}
