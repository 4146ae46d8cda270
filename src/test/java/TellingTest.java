/** "Terms", on telling that something changed. */
public final class TellingTest {
    public static void main(String[] args) {
        Check check = new Check();
        aStaleOneHasNothingToDo(check);
        aFrozenOneMissesIt(check);
        aFrozenOneHoldsTheWord(check);
        anotherOneBecomesStale(check);
        allUsersAreToldOnce(check);
        goesAsFarAsThereAreNodes(check);
        check.end();
    }

    private static void aStaleOneHasNothingToDo(Check check) {
        check.holds("Terms",
                "TELLING a node that something changed: a QUOTE, or a STALE one: nothing.");
        QuoteGraph graph = Graphs.spotAndMove();
        int low = graph.blend(0, 1, 1, 1);
        int top = graph.greater(low, 0);
        check.same("stale at first", graph.set(0, 81), 0);
        graph.value(low);
        check.same("top is stale", graph.set(0, 82), 1);
        check.same("both are stale", graph.set(0, 83), 0);
        check.same("count(1)", graph.count(1), 1);
        check.same("missed", graph.node(top, 3), 0);
    }

    private static void aFrozenOneMissesIt(Check check) {
        check.holds("Terms", "A FROZEN one: it has MISSED something.");
        QuoteGraph graph = Graphs.spotAndMove();
        int low = graph.blend(0, 0, 1, 1);
        graph.value(low);
        graph.freeze(low, true);
        graph.set(1, 9);
        check.same("by a quote that it doesn't use", graph.node(low, 3), 0);
        check.same("told", graph.set(0, 81), 0);
        check.same("missed", graph.node(low, 3), 1);
        check.same("valid", graph.node(low, 1), 1);
        check.same("value", graph.value(low), 160.0);
        check.same("told again", graph.set(0, 82), 0);
        check.same("missed still", graph.node(low, 3), 1);
        check.same("count(1)", graph.count(1), 0);
    }

    private static void aFrozenOneHoldsTheWord(Check check) {
        check.holds("Terms", "A FROZEN one: it has MISSED something.");
        QuoteGraph graph = Graphs.spotAndMove();
        int low = graph.blend(0, 1, 1, 1);
        int middle = graph.greater(low, low);
        int top = graph.greater(middle, middle);
        graph.value(top);
        graph.freeze(middle, true);
        check.same("low alone is told", graph.set(0, 81), 1);
        check.same("valid", State.valid(graph), "11011");
        check.same("middle missed it", graph.node(middle, 3), 1);
        check.same("top missed nothing", graph.node(top, 3), 0);
        check.same("value(top)", graph.value(top), 88.0);
        check.same("value(low)", graph.value(low), 89.0);
        check.same("value(middle)", graph.value(middle), 88.0);
    }

    private static void anotherOneBecomesStale(Check check) {
        check.holds("Terms",
                "Else it becomes STALE, is counted as TOLD, and all nodes of which it's a PART are"
                + " told.");
        QuoteGraph graph = Graphs.withOption(0, 80, 2);
        int low = graph.blend(0, 1, 1, 1);
        int high = graph.greater(0, 1);
        for (int n : new int[] {2, low, high}) {
            graph.value(n);
        }
        check.same("valid", State.valid(graph), "1111111");
        check.same("one of each sort", graph.set(1, 9), 3);
        check.same("stale", State.valid(graph), "1101100");
        check.same("count(1)", graph.count(1), 3);
    }

    private static void allUsersAreToldOnce(Check check) {
        check.holds("Terms",
                "Else it becomes STALE, is counted as TOLD, and all nodes of which it's a PART are"
                + " told.");
        QuoteGraph graph = Graphs.spotAndMove();
        int left = graph.blend(0, 0, 1, 1);
        int right = graph.greater(0, left);
        int o = graph.option(left, right, 3, 0, 1);
        graph.terms(o, -1, 8, false, left);
        int top = graph.blend(o, right, 1, 1);
        graph.value(top);
        check.same("by many ways", graph.set(0, 81), 4);
        check.same("stale", State.valid(graph), "110000");
        graph.value(top);
        graph.freeze(right, true);
        check.same("past a frozen one", graph.set(0, 82), 3);
        check.same("valid", State.valid(graph), "110100");
    }

    private static void goesAsFarAsThereAreNodes(Check check) {
        check.holds("Terms",
                "Else it becomes STALE, is counted as TOLD, and all nodes of which it's a PART are"
                + " told.");
        QuoteGraph graph = new QuoteGraph();
        graph.quote(1);
        for (int n = 1; n < 16; n++) {
            graph.greater(n - 1, 0);
        }
        graph.value(15);
        check.same("set(0, 2)", graph.set(0, 2), 15);
        check.same("valid", State.valid(graph), "1000000000000000");
        check.same("value(15)", graph.value(15), 2.0);
    }
}
