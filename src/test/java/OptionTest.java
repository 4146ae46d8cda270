/** Promise 5: option. */
public final class OptionTest {
    public static void main(String[] args) {
        Check check = new Check();
        isAnOption(check);
        refusesNodesThatAreNotThere(check);
        takesEachKind(check);
        takesTheEndsOfItsStrike(check);
        takesTheEndsOfItsSteps(check);
        startsWithoutRateAndKnock(check);
        startsPlain(check);
        answersItsNumber(check);
        isThe16th(check);
        isNotThe17th(check);
        check.end();
    }

    private static void isAnOption(Check check) {
        check.holds("Promise 5", "A new OPTION on the nodes spot and move");
        QuoteGraph graph = Graphs.spotAndMove();
        graph.option(0, 1, 3, 0, 1);
        check.same("the graph", State.of(graph),
                "counts 3 0 0 0; 0: 0 1 0 0 0 0 = 80.0; 1: 0 1 0 0 0 0 = 8.0; 2: 3 0 0 0 2 0");
        check.same("on 80 and 8", graph.value(2), 80.0);
        check.same("on 8 and 80", graph.value(graph.option(1, 0, 3, 0, 1)), 8.0);
        check.same("on 8 and 8", graph.value(graph.option(1, 1, 3, 0, 1)), 8.0);
        check.same("on an option", graph.value(graph.option(2, 1, 3, 1, 1)), 79.0);
    }

    private static void refusesNodesThatAreNotThere(Check check) {
        check.holds("Promise 5", "A new OPTION on the nodes spot and move");
        for (int gone : Graphs.goneNodes(10)) {
            check.bad("spot " + gone, Graphs::lively, graph -> graph.option(gone, 1, 0, 80, 2));
            check.bad("move " + gone, Graphs::lively, graph -> graph.option(0, gone, 0, 80, 2));
        }
    }

    private static void takesEachKind(Check check) {
        check.holds("Promise 5", "of a KIND 0 .. 3");
        double[] due = {3.75, 4.75, 25, -1};
        for (int kind = 0; kind <= 3; kind++) {
            QuoteGraph graph = Graphs.spotAndMove();
            graph.option(0, 1, kind, 81, 2);
            check.same("kind " + kind, graph.value(2), due[kind]);
        }
        for (int kind : new int[] {-1, 4, 5, 256, Integer.MIN_VALUE, Integer.MAX_VALUE}) {
            check.bad("kind " + kind, Graphs::lively, graph -> graph.option(0, 1, kind, 80, 2));
        }
    }

    private static void takesTheEndsOfItsStrike(Check check) {
        check.holds("Promise 5", "a STRIKE -100000 .. 100000");
        for (double strike : new double[] {100000, -100000, 99999.875, -99999.875, 0, -0.125}) {
            QuoteGraph graph = Graphs.spotAndMove();
            graph.option(0, 1, 3, strike, 1);
            check.same("strike " + strike, graph.value(2), 80 - strike);
        }
        double[] beyond = {
            100000.125, -100000.125, Math.nextUp(100000.0), Math.nextDown(-100000.0), 1000000
        };
        for (double strike : beyond) {
            check.bad("strike " + strike, Graphs::lively,
                    graph -> graph.option(0, 1, 0, strike, 2));
        }
        for (double never : Graphs.neverNumbers()) {
            check.bad("strike " + never, Graphs::lively, graph -> graph.option(0, 1, 0, never, 2));
        }
    }

    private static void takesTheEndsOfItsSteps(Check check) {
        check.holds("Promise 5", "STEPS 1 .. 20");
        QuoteGraph graph = Graphs.spotAndMove();
        check.same("1 step", graph.value(graph.option(0, 1, 0, 80, 1)), 4.0);
        check.same("2 steps", graph.value(graph.option(0, 1, 0, 80, 2)), 4.0);
        check.same("3 steps", graph.value(graph.option(0, 1, 0, 80, 3)), 6.0);
        check.same("20 steps", graph.value(graph.option(0, 1, 0, 80, 20)), 14.0966796875);
        for (int steps : new int[] {0, 21, -1, 22, Integer.MIN_VALUE, Integer.MAX_VALUE}) {
            check.bad("steps " + steps, Graphs::lively,
                    lively -> lively.option(0, 1, 0, 80, steps));
        }
    }

    private static void startsWithoutRateAndKnock(Check check) {
        check.holds("Promise 5", "without rate and knock.");
        QuoteGraph graph = Graphs.spotAndMove();
        graph.option(0, 1, 3, 0, 20);
        check.same("parts", graph.node(2, 4), 2);
        check.same("nothing is taken by a rate", graph.value(2), 80.0);
        int high = graph.option(0, 0, 3, -100000, 1);
        check.same("no price is out", graph.value(high), 100080.0);
    }

    /** Each at first answers otherwise than what it could be given by terms or engine. */
    private static void startsPlain(Check check) {
        check.holds("Promise 5 and Terms", "a CHANCE (1 .. 15 sixteenths, 8 at first)");
        QuoteGraph graph = Graphs.withOption(0, 80, 1);
        check.same("8 by a half", graph.value(2), 4.0);
        check.holds("Promise 5 and Terms", "is AMERICAN or not (not at first)");
        int digital = graph.option(0, 1, 2, 80, 2);
        check.same("75, though 100 could be had at once", graph.value(digital), 75.0);
        graph.engine(digital, 1, 0);
        check.same("paths take it", graph.value(digital), 100.0);
        check.holds("Promise 5 and Terms", "an ENGINE with a SIZE (LATTICE at first)");
        int call = graph.option(0, 1, 0, 80, 3);
        check.same("neither paths (8) nor a net (4)", graph.value(call), 6.0);
        graph.engine(call, 0, 0);
        check.same("the same lattice when it's chosen", graph.value(call), 6.0);
    }

    private static void answersItsNumber(Check check) {
        check.holds("Promise 5", "Answers its number.");
        QuoteGraph graph = Graphs.spotAndMove();
        check.same("the third node", graph.option(0, 1, 0, 80, 2), 2);
        check.bad("a bad one", () -> graph.option(0, 1, 4, 80, 2));
        check.same("an option on an option", graph.option(2, 2, 0, 80, 2), 3);
    }

    private static void isThe16th(Check check) {
        check.holds("Promise 5 and Terms", "NODES are numbered 0, 1, .. (at most 16)");
        QuoteGraph graph = Graphs.almostFull();
        check.same("the 16th", graph.option(0, 14, 3, 0, 1), 15);
        check.same("its value", graph.value(15), 80.0);
    }

    private static void isNotThe17th(Check check) {
        check.holds("Promise 5 and Terms",
                "16 nodes there and one more to come: IllegalStateException.");
        check.badState("a 17th", Graphs::full, graph -> graph.option(0, 1, 0, 80, 2));
        check.holds("Promise 5 and Terms", "it comes before other troubles.");
        check.bad("a 17th on itself", Graphs::full, graph -> graph.option(16, 1, 0, 80, 2));
        check.bad("a 17th of no move", Graphs::full, graph -> graph.option(0, -1, 0, 80, 2));
        check.bad("a 17th of kind 4", Graphs::full, graph -> graph.option(0, 1, 4, 80, 2));
        check.bad("a 17th of strike 0.1", Graphs::full, graph -> graph.option(0, 1, 0, 0.1, 2));
        check.bad("a 17th of 0 steps", Graphs::full, graph -> graph.option(0, 1, 0, 80, 0));
        check.bad("a 17th of 21 steps", Graphs::full, graph -> graph.option(0, 1, 0, 80, 21));
    }
}
