/** "Terms", on nodes: how many there are, and what they are at first. */
public final class NodesTest {
    public static void main(String[] args) {
        Check check = new Check();
        areNumberedUpTo16(check);
        keepTheirNumbersWhenOneIsRefused(check);
        areRefusedBeyond16(check);
        workWhenThereAre16(check);
        useTheirPartsAndWhatTheyUse(check);
        areStaleAndNotFrozenAtFirst(check);
        areValidWhileTheyAreFrozen(check);
        answerTo512Calls(check);
        check.end();
    }

    /** Four of each sort. */
    private static QuoteGraph mixed(int count) {
        QuoteGraph graph = new QuoteGraph();
        for (int n = 0; n < count; n++) {
            addOne(graph, n);
        }
        return graph;
    }

    private static int addOne(QuoteGraph graph, int n) {
        switch (n % 4) {
            case 0:
                return graph.quote(n + 1);
            case 1:
                return graph.blend(n - 1, n - 1, 1, 1);
            case 2:
                return graph.greater(n - 1, n - 2);
            default:
                return graph.option(n - 1, n - 1, 3, 0, 1);
        }
    }

    private static void areNumberedUpTo16(Check check) {
        check.holds("Terms", "NODES are numbered 0, 1, .. (at most 16)");
        QuoteGraph graph = new QuoteGraph();
        for (int n = 0; n < 16; n++) {
            check.same("node " + n, addOne(graph, n), n);
            check.same("count(0)", graph.count(0), n + 1);
            check.same("its sort", graph.node(n, 0), n % 4);
        }
    }

    private static void keepTheirNumbersWhenOneIsRefused(Check check) {
        check.holds("Terms", "NODES are numbered 0, 1, .. (at most 16)");
        QuoteGraph graph = new QuoteGraph();
        for (int n = 0; n < 16; n++) {
            int next = n;
            check.bad("quote(0.1)", () -> graph.quote(0.1));
            check.bad("greater of itself", () -> graph.greater(next, next));
            check.same("node " + n, addOne(graph, n), n);
        }
    }

    private static void areRefusedBeyond16(Check check) {
        check.holds("Terms", "16 nodes there and one more to come: IllegalStateException.");
        for (int sort = 0; sort < 4; sort++) {
            int n = 16 + sort;
            QuoteGraph almost = mixed(15);
            check.same("the 16th", addOne(almost, 15), 15);
            check.badState("a 17th of sort " + sort, () -> mixed(16), graph -> {
                switch (n % 4) {
                    case 0:
                        graph.quote(1);
                        break;
                    case 1:
                        graph.blend(0, 15, 1, 1);
                        break;
                    case 2:
                        graph.greater(0, 15);
                        break;
                    default:
                        graph.option(0, 15, 3, 0, 1);
                        break;
                }
            });
        }
    }

    private static void workWhenThereAre16(Check check) {
        check.holds("Terms", "NODES are numbered 0, 1, .. (at most 16)");
        QuoteGraph graph = mixed(16);
        check.same("value(15)", graph.value(15), 26.0);
        check.same("set(12, 1)", graph.set(12, 1), 3);
        graph.terms(15, 11, 8, false, 7);
        check.same("parts", graph.node(15, 4), 4);
        check.same("uses(15, 4)", graph.uses(15, 4), true);
        graph.terms(15, -1, 8, false, -1);
        graph.engine(15, 2, 20);
        check.same("value(15) by a net", graph.value(15), 2.0);
        check.same("bump(15, 12, 1)", graph.bump(15, 12, 1), 2.0);
        graph.freeze(15, true);
        check.same("frozen", graph.node(15, 2), 1);
    }

    private static void useTheirPartsAndWhatTheyUse(Check check) {
        check.holds("Terms", "A node USES its PARTS and what they USE; no node USES itself.");
        QuoteGraph graph = mixed(16);
        for (int a = 0; a < 16; a++) {
            for (int b = 0; b < 16; b++) {
                boolean due = a / 4 == b / 4 && b < a;
                check.same("uses(" + a + ", " + b + ")", graph.uses(a, b), due);
            }
        }
    }

    private static void areStaleAndNotFrozenAtFirst(Check check) {
        check.holds("Terms",
                "A DERIVED node is STALE (at first) or VALID with a KEPT value, and FROZEN or not"
                + " (not at first)");
        QuoteGraph graph = mixed(16);
        for (int n = 0; n < 16; n++) {
            check.same("valid " + n, graph.node(n, 1), n % 4 == 0 ? 1 : 0);
            check.same("frozen " + n, graph.node(n, 2), 0);
            check.same("missed " + n, graph.node(n, 3), 0);
            check.same("worked out " + n, graph.node(n, 5), 0);
        }
    }

    private static void areValidWhileTheyAreFrozen(Check check) {
        check.holds("Terms", "FROZEN ones are VALID.");
        QuoteGraph graph = mixed(4);
        graph.value(3);
        for (int n = 1; n <= 3; n++) {
            graph.freeze(n, true);
        }
        graph.set(0, 5);
        graph.bump(3, 0, 1);
        check.badState("terms", () -> graph.terms(3, -1, 8, false, -1));
        check.badState("engine", () -> graph.engine(3, 0, 0));
        check.same("valid", State.valid(graph), "1111");
        check.same("value(3)", graph.value(3), 2.0);
    }

    private static void answerTo512Calls(Check check) {
        check.holds("What it is", "An object is used for at most 512 calls");
        QuoteGraph graph = Graphs.withOption(0, 80, 2);
        for (int call = 5; call < 509; call += 2) {
            graph.set(0, call % 4 == 1 ? 88 : 80);
            graph.value(2);
        }
        check.same("call 510", graph.count(1), 251);
        check.same("call 511", graph.count(2), 252);
        check.same("call 512", graph.value(2), 4.0);
    }
}
