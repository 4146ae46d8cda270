/** Promise 14: count. */
public final class CountTest {
    public static void main(String[] args) {
        Check check = new Check();
        countsNodes(check);
        countsTheTold(check);
        countsTheWorkedOut(check);
        countsTrouble(check);
        countsNoOtherTrouble(check);
        answersNoOtherCount(check);
        check.end();
    }

    private static void countsNodes(Check check) {
        check.holds("Promise 14", "Nodes (0)");
        QuoteGraph graph = new QuoteGraph();
        check.same("none", graph.count(0), 0);
        graph.quote(1);
        check.same("a quote", graph.count(0), 1);
        graph.blend(0, 0, 1, 1);
        check.same("and a blend", graph.count(0), 2);
        graph.greater(0, 0);
        check.same("and a greater", graph.count(0), 3);
        graph.option(0, 0, 0, 0, 1);
        check.same("and an option", graph.count(0), 4);
        QuoteGraph full = Graphs.full();
        check.badState("a 17th", () -> full.quote(1));
        check.same("16", full.count(0), 16);
    }

    private static void countsTheTold(Check check) {
        check.holds("Promise 14", "TOLD so far (1)");
        QuoteGraph graph = Graphs.lively();
        check.same("one by set", graph.count(1), 1);
        graph.value(8);
        graph.engine(5, 0, 0);
        check.same("two more by engine", graph.count(1), 3);
        graph.terms(5, -1, 8, false, -1);
        check.same("none while stale", graph.count(1), 3);
        graph.freeze(4, false);
        check.same("one more by freeze", graph.count(1), 4);
        graph.bump(8, 0, 1);
        check.same("none by bump", graph.count(1), 4);
        check.same("set(0, 81)", graph.set(0, 81), 3);
        check.same("three more by set", graph.count(1), 7);
    }

    private static void countsTheWorkedOut(Check check) {
        check.holds("Promise 14", "WORKED OUT so far (2)");
        QuoteGraph graph = Graphs.lively();
        check.same("five", graph.count(2), 5);
        graph.value(0);
        graph.value(4);
        graph.value(5);
        check.same("none by quotes and valid ones", graph.count(2), 5);
        graph.bump(8, 0, 1);
        check.same("three more by bump", graph.count(2), 8);
    }

    private static void countsTrouble(Check check) {
        check.holds("Promise 14",
                "times that ArithmeticException or UnsupportedOperationException was thrown by"
                + " value or bump (3)");
        QuoteGraph graph = Graphs.lively();
        check.arithmetic("value(6)", () -> graph.value(6));
        check.same("by value", graph.count(3), 1);
        check.unsupported("value(7)", () -> graph.value(7));
        check.same("by value, unsupported", graph.count(3), 2);
        check.arithmetic("bump(6, 0, 1)", () -> graph.bump(6, 0, 1));
        check.same("by bump, at once", graph.count(3), 3);
        check.unsupported("bump(7, 0, 1)", () -> graph.bump(7, 0, 1));
        check.same("by bump, unsupported", graph.count(3), 4);
        check.arithmetic("bump(5, 1, -9)", () -> graph.bump(5, 1, -9));
        check.same("by bump, when asked again", graph.count(3), 5);
        int user = graph.greater(6, 7);
        int above = graph.greater(user, user);
        check.arithmetic("value(above)", () -> graph.value(above));
        check.same("once, from two nodes below", graph.count(3), 6);
    }

    private static void countsNoOtherTrouble(Check check) {
        check.holds("Promise 14",
                "times that ArithmeticException or UnsupportedOperationException was thrown by"
                + " value or bump (3)");
        QuoteGraph graph = Graphs.lively();
        check.bad("value(10)", () -> graph.value(10));
        check.bad("bump(6, 3, 1)", () -> graph.bump(6, 3, 1));
        check.bad("bump(7, 0, 0.1)", () -> graph.bump(7, 0, 0.1));
        check.badState("freeze(6, true)", () -> graph.freeze(6, true));
        check.badState("engine(9, 0, 0)", () -> graph.engine(9, 0, 0));
        check.bad("quote(0.1)", () -> graph.quote(0.1));
        graph.value(5);
        graph.bump(5, 0, 1);
        check.same("count(3)", graph.count(3), 0);
    }

    private static void answersNoOtherCount(Check check) {
        check.holds("Promise 14", "else -1.");
        int[] others = {-1, 4, 5, 256, Integer.MIN_VALUE, Integer.MAX_VALUE};
        for (int what : others) {
            check.same("count(" + what + ") of none", new QuoteGraph().count(what), -1);
            check.same("count(" + what + ")", Graphs.lively().count(what), -1);
        }
    }
}
