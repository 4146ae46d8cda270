/** Promise 11: bump. */
public final class BumpTest {
    public static void main(String[] args) {
        Check check = new Check();
        answersTheChange(check);
        bumpsAQuoteItself(check);
        takesTheEndsOfItsRange(check);
        refusesTheFirstBeyond(check);
        refusesNodesThatAreNotThere(check);
        refusesWhatIsNoQuote(check);
        isBadBeforeItIsTrouble(check);
        makesStaleWhatUsesTheQuote(check);
        makesNoFrozenOneStale(check);
        makesUsersStaleThroughFrozenOnes(check);
        countsNobodyAsTold(check);
        restoresWhatWasThere(check);
        failsAtTheFirstAsking(check);
        asksAgain(check);
        restoresAfterTroubleAtTheSecond(check);
        mayLeaveTheRangeOfQuotes(check);
        mayAnswerMoreThanAMillion(check);
        check.end();
    }

    /** A blend of 72 (2), valid, one of 88 (3) and a greater of both (4), both stale. */
    private static QuoteGraph chain() {
        QuoteGraph graph = Graphs.spotAndMove();
        graph.blend(0, 1, 1, -1);
        graph.blend(0, 1, 1, 1);
        graph.greater(2, 3);
        graph.value(2);
        return graph;
    }

    private static void answersTheChange(Check check) {
        check.holds("Promise 11", "Answers y - x.");
        QuoteGraph graph = chain();
        check.same("by 1 up", graph.bump(4, 0, 1), 1.0);
        check.same("by 1 down", graph.bump(4, 0, -1), -1.0);
        check.same("by the other quote", graph.bump(4, 1, 0.125), 0.125);
        check.same("from 88 of the one to 92 of the other", graph.bump(4, 1, -20), 4.0);
        check.same("of a quote that it doesn't use", graph.bump(2, graph.quote(1), 1), 0.0);
        check.same("by nothing", graph.bump(4, 0, 0), 0.0);
        check.same("by -0.0", graph.bump(4, 0, -0.0), 0.0);
        QuoteGraph small = Graphs.largeAndSmall();
        check.same("1/1024 more", small.bump(4, 1, 0.125), Graphs.UNIT);
        check.same("1/1024 less", small.bump(4, 1, -0.125), -Graphs.UNIT);
    }

    private static void bumpsAQuoteItself(Check check) {
        check.holds("Promise 11", "How much node n changes with QUOTE q");
        QuoteGraph graph = chain();
        check.same("of itself", graph.bump(0, 0, 5), 5.0);
        check.same("of itself by nothing", graph.bump(0, 0, 0), 0.0);
        check.same("of another quote", graph.bump(0, 1, 5), 0.0);
        check.same("value(0)", graph.value(0), 80.0);
        check.same("value(1)", graph.value(1), 8.0);
        check.same("worked out", State.worked(graph), "00100");
    }

    private static void takesTheEndsOfItsRange(Check check) {
        check.holds("Promise 11", "then q has by (-1000 .. 1000) more");
        for (double by : new double[] {1000, -1000, 999.875, -999.875, 0.125, -0.125}) {
            QuoteGraph graph = chain();
            check.same("by " + by, graph.bump(3, 0, by), by);
            check.same("value(0)", graph.value(0), 80.0);
        }
    }

    private static void refusesTheFirstBeyond(Check check) {
        check.holds("Promise 11", "then q has by (-1000 .. 1000) more");
        double[] beyond = {
            1000.125, -1000.125, Math.nextUp(1000.0), Math.nextDown(-1000.0), 1001, 100000
        };
        for (double by : beyond) {
            check.bad("by " + by, Graphs::lively, graph -> graph.bump(8, 0, by));
        }
        for (double never : Graphs.neverNumbers()) {
            check.bad("by " + never, Graphs::lively, graph -> graph.bump(8, 0, never));
        }
    }

    private static void refusesNodesThatAreNotThere(Check check) {
        check.holds("Promise 11 and Terms", "a node that isn't there or is of the wrong sort");
        for (int gone : Graphs.goneNodes(10)) {
            check.bad("n " + gone, Graphs::lively, graph -> graph.bump(gone, 0, 1));
            check.bad("q " + gone, Graphs::lively, graph -> graph.bump(8, gone, 1));
        }
    }

    private static void refusesWhatIsNoQuote(Check check) {
        check.holds("Promise 11 and Terms", "a node that isn't there or is of the wrong sort");
        for (int wrong = 3; wrong <= 9; wrong++) {
            int q = wrong;
            check.bad("q " + q, Graphs::lively, graph -> graph.bump(8, q, 1));
            check.bad("n and q " + q, Graphs::lively, graph -> graph.bump(q, q, 1));
        }
    }

    private static void isBadBeforeItIsTrouble(Check check) {
        check.holds("Promise 11 and Terms", "it comes before other troubles.");
        for (int n = 6; n <= 7; n++) {
            int troubled = n;
            check.bad("n " + n + ", q 3", Graphs::lively, graph -> graph.bump(troubled, 3, 1));
            check.bad("n " + n + ", q 10", Graphs::lively, graph -> graph.bump(troubled, 10, 1));
            check.bad("n " + n + ", by 1000.125", Graphs::lively,
                    graph -> graph.bump(troubled, 0, 1000.125));
        }
    }

    private static void makesStaleWhatUsesTheQuote(Check check) {
        check.holds("Promise 11", "all nodes that USE q but FROZEN ones are STALE");
        QuoteGraph graph = chain();
        graph.bump(4, 0, 1);
        check.same("all were worked out again", State.worked(graph), "00222");
        graph.bump(4, 0, 0);
        check.same("and again by nothing", State.worked(graph), "00333");
        graph.bump(2, 0, 1);
        check.same("what wasn't asked wasn't worked out", State.worked(graph), "00433");
        graph.bump(4, graph.quote(1), 1);
        check.same("what doesn't use q is kept", State.worked(graph), "004330");
    }

    private static void makesNoFrozenOneStale(Check check) {
        check.holds("Promise 11", "all nodes that USE q but FROZEN ones are STALE");
        QuoteGraph graph = chain();
        graph.value(4);
        graph.freeze(3, true);
        check.same("of a frozen one", graph.bump(3, 0, 1), 0.0);
        check.same("72 and 7 against a frozen 88", graph.bump(4, 0, 7), 0.0);
        check.same("72 and 20 against a frozen 88", graph.bump(4, 0, 20), 4.0);
        check.same("the frozen one was worked out once", graph.node(3, 5), 1);
        check.same("it missed nothing", graph.node(3, 3), 0);
        graph.set(0, 81);
        check.same("what it missed before", graph.node(3, 3), 1);
        graph.bump(4, 0, 1);
        check.same("stays missed", graph.node(3, 3), 1);
    }

    private static void makesUsersStaleThroughFrozenOnes(Check check) {
        check.holds("Promise 11", "all nodes that USE q but FROZEN ones are STALE");
        QuoteGraph graph = Graphs.spotAndMove();
        graph.blend(0, 0, 1, 0);
        graph.greater(2, 2);
        graph.blend(3, 1, 1, 1);
        graph.value(4);
        graph.freeze(3, true);
        check.same("of 80 that is frozen", graph.bump(4, 0, 1), 0.0);
        check.same("its user was worked out again", State.worked(graph), "00112");
        check.same("all are valid", State.valid(graph), "11111");
        check.same("of 8 that isn't", graph.bump(4, 1, 1), 1.0);
    }

    private static void countsNobodyAsTold(Check check) {
        check.holds("Promise 11", "(not counted as TOLD)");
        QuoteGraph graph = chain();
        graph.bump(4, 0, 1);
        graph.bump(2, 1, -1);
        check.same("count(1)", graph.count(1), 0);
    }

    private static void restoresWhatWasThere(Check check) {
        check.holds("Promise 11",
                "q's value and all nodes' KEPT values and whether they are VALID are as they were"
                + " after x.");
        QuoteGraph graph = chain();
        check.same("of one that was stale", graph.bump(3, 0, 1), 1.0);
        check.same("the graph", State.of(graph),
                "counts 5 0 3 0; 0: 0 1 0 0 0 0 = 80.0; 1: 0 1 0 0 0 0 = 8.0;"
                + " 2: 1 1 0 0 2 1 = 72.0; 3: 1 1 0 0 2 2 = 88.0; 4: 2 0 0 0 2 0");
        check.same("value(4)", graph.value(4), 88.0);
        check.same("the users are told as before", graph.set(0, 81), 3);
        check.same("value(4) later", graph.value(4), 89.0);
    }

    private static QuoteGraph onAMove() {
        QuoteGraph graph = Graphs.spotAndMove();
        graph.blend(1, 1, 1, 0);           // 2: the move
        graph.option(0, 2, 3, 0, 1);       // 3
        graph.greater(3, 2);               // 4
        return graph;
    }

    private static QuoteGraph onABadMove() {
        QuoteGraph graph = onAMove();
        graph.set(1, -8);
        return graph;
    }

    private static void failsAtTheFirstAsking(Check check) {
        check.holds("Promise 11", "n is asked (x)");
        QuoteGraph graph = check.arithmetic("bump(4, 1, 16)", BumpTest::onABadMove,
                bad -> bad.bump(4, 1, 16));
        check.same("the move stays valid", State.valid(graph), "11100");
        check.same("worked out", State.worked(graph), "00100");
        check.same("the move's value", graph.value(2), -8.0);
        QuoteGraph early = check.unsupported("bump(7, 0, 1)", Graphs::lively,
                lively -> lively.bump(7, 0, 1));
        check.same("valid", State.valid(early), "1111110001");
        QuoteGraph other = check.arithmetic("bump(6, 2, 8), where 8 would be fine", Graphs::lively,
                lively -> lively.bump(6, 2, 8));
        check.same("worked out", State.worked(other), "0002110001");
    }

    private static void asksAgain(Check check) {
        check.holds("Promise 11", "and n is asked again (y)");
        QuoteGraph graph = onAMove();
        check.same("bump(4, 1, 92)", graph.bump(4, 1, 92), 20.0);
        check.same("both askings worked all out", State.worked(graph), "00222");
        check.same("count(2)", graph.count(2), 6);
    }

    private static void restoresAfterTroubleAtTheSecond(Check check) {
        check.holds("Promise 11", "then, whatever happened");
        QuoteGraph graph = check.arithmetic("bump(4, 1, -8)", BumpTest::onAMove,
                fine -> fine.bump(4, 1, -8));
        check.same("the graph", State.of(graph),
                "counts 5 0 4 1; 0: 0 1 0 0 0 0 = 80.0; 1: 0 1 0 0 0 0 = 8.0;"
                + " 2: 1 1 0 0 2 2 = 8.0; 3: 3 1 0 0 2 1 = 80.0; 4: 2 1 0 0 2 1 = 80.0");
        check.same("bump(4, 1, -7.875)", graph.bump(4, 1, -7.875), 0.0);
    }

    private static void mayLeaveTheRangeOfQuotes(Check check) {
        check.holds("Promise 11", "q's greater value may be out of the range of quotes.");
        QuoteGraph graph = new QuoteGraph();
        graph.quote(100000);
        graph.quote(-100000);
        check.same("100000.125", graph.bump(0, 0, 0.125), 0.125);
        check.same("101000", graph.bump(0, 0, 1000), 1000.0);
        check.same("-100000.125", graph.bump(1, 1, -0.125), -0.125);
        check.same("-101000", graph.bump(1, 1, -1000), -1000.0);
        int nine = graph.blend(0, 1, 9, 0.5);
        check.same("859000 from 850000", graph.bump(nine, 0, 1000), 9000.0);
        check.same("849500 from 850000", graph.bump(nine, 1, -1000), -500.0);
        check.same("value(0)", graph.value(0), 100000.0);
        check.same("value(1)", graph.value(1), -100000.0);
        int ten = graph.blend(0, 0, 10, 0);
        int minusTen = graph.blend(0, 0, -10, 0);
        check.arithmetic("1000001.25 from 1000000", () -> graph.bump(ten, 0, 0.125));
        check.arithmetic("-1000001.25 from -1000000", () -> graph.bump(minusTen, 0, 0.125));
        check.same("value(ten)", graph.value(ten), 1000000.0);
        check.same("value(minusTen)", graph.value(minusTen), -1000000.0);
    }

    private static void mayAnswerMoreThanAMillion(Check check) {
        check.holds("Promise 11", "Answers y - x.");
        QuoteGraph graph = new QuoteGraph();
        graph.quote(-500);
        int up = graph.blend(0, 0, 16, 16);
        int far = graph.blend(up, up, 16, 16);
        check.same("512000 from -512000", graph.bump(far, 0, 1000), 1024000.0);
        graph.set(0, 500);
        check.same("-512000 from 512000", graph.bump(far, 0, -1000), -1024000.0);
    }
}
