/** Promise 13: node. */
public final class NodeTest {
    public static void main(String[] args) {
        Check check = new Check();
        tellsItsSort(check);
        tellsWhetherItIsValid(check);
        tellsWhetherItIsFrozen(check);
        tellsWhetherItMissedSomething(check);
        tellsHowManyParts(check);
        tellsHowOftenItWasWorkedOut(check);
        countsNoTroubleAsWorkedOut(check);
        refusesAnotherWhat(check);
        refusesNodesThatAreNotThere(check);
        changesNothing(check);
        check.end();
    }

    private static void tells(Check check, int what, int... due) {
        QuoteGraph graph = Graphs.lively();
        for (int n = 0; n < due.length; n++) {
            check.same("node(" + n + ", " + what + ")", graph.node(n, what), due[n]);
        }
    }

    private static void tellsItsSort(Check check) {
        check.holds("Promise 13", "0 QUOTE, 1 BLEND, 2 GREATER, 3 OPTION (what 0)");
        tells(check, 0, 0, 0, 0, 1, 2, 3, 3, 3, 1, 3);
    }

    private static void tellsWhetherItIsValid(Check check) {
        check.holds("Promise 13", "1 if VALID or a QUOTE, else 0 (1)");
        tells(check, 1, 1, 1, 1, 1, 1, 1, 0, 0, 0, 1);
    }

    private static void tellsWhetherItIsFrozen(Check check) {
        check.holds("Promise 13", "1 if FROZEN (2)");
        tells(check, 2, 0, 0, 0, 0, 1, 0, 0, 0, 0, 1);
    }

    private static void tellsWhetherItMissedSomething(Check check) {
        check.holds("Promise 13", "1 if it MISSED something (3)");
        tells(check, 3, 0, 0, 0, 0, 1, 0, 0, 0, 0, 0);
    }

    private static void tellsHowManyParts(Check check) {
        check.holds("Promise 13", "how many PARTS (4)");
        tells(check, 4, 0, 0, 0, 2, 2, 2, 2, 2, 2, 2);
        QuoteGraph graph = Graphs.lively();
        graph.terms(5, 1, 8, false, -1);
        check.same("with a rate", graph.node(5, 4), 3);
        graph.terms(5, 1, 8, false, 1);
        check.same("with one node for both", graph.node(5, 4), 4);
        graph.terms(5, -1, 8, false, -1);
        check.same("without", graph.node(5, 4), 2);
    }

    private static void tellsHowOftenItWasWorkedOut(Check check) {
        check.holds("Promise 13", "how often it was WORKED OUT (5)");
        tells(check, 5, 0, 0, 0, 2, 1, 1, 0, 0, 0, 1);
        QuoteGraph graph = Graphs.lively();
        graph.value(5);
        check.same("not by the asking of a valid one", graph.node(5, 5), 1);
        graph.engine(5, 0, 0);
        graph.value(8);
        check.same("by the asking of its user", graph.node(5, 5), 2);
        graph.bump(8, 0, 1);
        check.same("by a bump of its user", graph.node(5, 5), 3);
        check.same("of the user", graph.node(8, 5), 2);
    }

    private static void countsNoTroubleAsWorkedOut(Check check) {
        check.holds("Promise 13", "how often it was WORKED OUT (5)");
        QuoteGraph graph = Graphs.lively();
        check.arithmetic("value(6)", () -> graph.value(6));
        check.unsupported("value(7)", () -> graph.value(7));
        check.same("node(6, 5)", graph.node(6, 5), 0);
        check.same("node(7, 5)", graph.node(7, 5), 0);
        check.same("count(2)", graph.count(2), 5);
    }

    private static void refusesAnotherWhat(Check check) {
        check.holds("Promise 13", "Another what is bad.");
        for (int what : new int[] {-1, 6, 7, 256, Integer.MIN_VALUE, Integer.MAX_VALUE}) {
            for (int n : new int[] {0, 4, 8}) {
                check.bad("node(" + n + ", " + what + ")", Graphs::lively,
                        graph -> graph.node(n, what));
            }
        }
    }

    private static void refusesNodesThatAreNotThere(Check check) {
        check.holds("Promise 13 and Terms", "a node that isn't there");
        for (int gone : Graphs.goneNodes(10)) {
            for (int what = -1; what <= 6; what++) {
                int asked = what;
                check.bad("node(" + gone + ", " + what + ")", Graphs::lively,
                        graph -> graph.node(gone, asked));
            }
        }
    }

    private static void changesNothing(Check check) {
        check.holds("Promise 13", "how often it was WORKED OUT (5)");
        QuoteGraph graph = Graphs.lively();
        check.same("the graph seen twice", State.of(graph), State.of(graph));
        check.same("no failure is counted", graph.count(3), 0);
    }
}
