/** Promise 12: uses. */
public final class UsesTest {
    public static void main(String[] args) {
        Check check = new Check();
        followsParts(check);
        neverUsesItself(check);
        followsRatesAndKnocksToLaterNodes(check);
        followsNoPartThatIsGone(check);
        refusesNodesThatAreNotThere(check);
        changesNothing(check);
        check.end();
    }

    private static void followsParts(Check check) {
        check.holds("Promise 12 and Terms", "A node USES its PARTS and what they USE");
        QuoteGraph graph = Graphs.spotAndMove();
        graph.quote(1);
        graph.blend(0, 1, 0, 0);
        graph.greater(3, 3);
        graph.option(4, 2, 0, 0, 1);
        int[] used = {0, 0, 0, 0b000011, 0b001011, 0b011111};
        for (int a = 0; a < used.length; a++) {
            for (int b = 0; b < used.length; b++) {
                boolean due = (used[a] >> b & 1) == 1;
                check.same("uses(" + a + ", " + b + ")", graph.uses(a, b), due);
            }
        }
    }

    private static void neverUsesItself(Check check) {
        check.holds("Promise 12 and Terms", "no node USES itself.");
        QuoteGraph graph = Graphs.lively();
        for (int n = 0; n < 10; n++) {
            check.same("uses(" + n + ", " + n + ")", graph.uses(n, n), false);
        }
    }

    /** Options 2 .. 14, each with the next one for a rate or a knock, and a quote at the end. */
    private static QuoteGraph longWay() {
        QuoteGraph graph = Graphs.spotAndMove();
        for (int n = 2; n < 15; n++) {
            graph.option(0, 1, 0, 0, 1);
        }
        graph.quote(7);
        for (int n = 2; n < 15; n++) {
            graph.terms(n, n % 2 == 0 ? n + 1 : -1, 8, false, n % 2 == 0 ? -1 : n + 1);
        }
        return graph;
    }

    private static void followsRatesAndKnocksToLaterNodes(Check check) {
        check.holds("Promise 12", "Whether node a USES node b.");
        QuoteGraph graph = longWay();
        for (int n = 2; n < 15; n++) {
            check.same("uses(" + n + ", 15)", graph.uses(n, 15), true);
            check.same("uses(15, " + n + ")", graph.uses(15, n), false);
            check.same("uses(2, " + n + ")", graph.uses(2, n), n != 2);
            check.same("uses(14, " + n + ")", graph.uses(14, n), false);
        }
        check.bad("a ring of 13 options", () -> graph.terms(14, 2, 8, false, 15));
    }

    private static void followsNoPartThatIsGone(Check check) {
        check.holds("Promise 12", "Whether node a USES node b.");
        QuoteGraph graph = longWay();
        graph.terms(8, -1, 8, false, -1);
        check.same("uses(2, 8)", graph.uses(2, 8), true);
        check.same("uses(2, 9)", graph.uses(2, 9), false);
        check.same("uses(2, 15)", graph.uses(2, 15), false);
        check.same("uses(9, 15)", graph.uses(9, 15), true);
        graph.terms(14, 2, 8, false, 15);
        check.same("what would have been a ring", graph.uses(9, 8), true);
    }

    private static void refusesNodesThatAreNotThere(Check check) {
        check.holds("Promise 12 and Terms", "a node that isn't there");
        for (int gone : Graphs.goneNodes(10)) {
            check.bad("uses(" + gone + ", 0)", Graphs::lively, graph -> graph.uses(gone, 0));
            check.bad("uses(3, " + gone + ")", Graphs::lively, graph -> graph.uses(3, gone));
            check.bad("uses both " + gone, Graphs::lively, graph -> graph.uses(gone, gone));
        }
    }

    private static void changesNothing(Check check) {
        check.holds("Promise 12", "Whether node a USES node b.");
        QuoteGraph graph = Graphs.lively();
        String before = State.of(graph);
        for (int n = 0; n < 10; n++) {
            graph.uses(n, 9 - n);
        }
        check.same("the graph", State.of(graph), before);
    }
}
