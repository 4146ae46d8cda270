/** Promise 10: freeze. */
public final class FreezeTest {
    public static void main(String[] args) {
        Check check = new Check();
        freezesEachSort(check);
        refusesAQuote(check);
        refusesNodesThatAreNotThere(check);
        refusesAStaleOne(check);
        refusesAStaleOneAfterTrouble(check);
        isToldOfWhatItMissed(check);
        isToldOnceOfAllThatItMissed(check);
        staysValidIfItMissedNothing(check);
        forgetsWhatItMissedBefore(check);
        hasNothingToDoIfFrozenAlready(check);
        hasNothingToDoIfNotFrozenAlready(check);
        passesTheWordToFrozenUsers(check);
        check.end();
    }

    /** A blend of 88 (2) and a greater of it (3), both valid. */
    private static QuoteGraph chain() {
        QuoteGraph graph = Graphs.spotAndMove();
        graph.blend(0, 1, 1, 1);
        graph.greater(2, 2);
        graph.value(3);
        return graph;
    }

    private static void freezesEachSort(Check check) {
        check.holds("Promise 10", "DERIVED node n becomes FROZEN");
        QuoteGraph graph = chain();
        graph.option(0, 1, 0, 80, 2);
        graph.value(4);
        for (int n = 2; n <= 4; n++) {
            graph.freeze(n, true);
            check.same("frozen " + n, graph.node(n, 2), 1);
        }
        check.same("nobody is told", graph.set(0, 90), 0);
        check.same("the graph", State.of(graph),
                "counts 5 0 3 0; 0: 0 1 0 0 0 0 = 90.0; 1: 0 1 0 0 0 0 = 8.0;"
                + " 2: 1 1 1 1 2 1 = 88.0; 3: 2 1 1 0 2 1 = 88.0; 4: 3 1 1 1 2 1 = 4.0");
    }

    private static void refusesAQuote(Check check) {
        check.holds("Promise 10 and Terms", "a node that isn't there or is of the wrong sort");
        for (int q = 0; q <= 2; q++) {
            int quote = q;
            check.bad("freeze " + q, Graphs::lively, graph -> graph.freeze(quote, true));
            check.bad("not freeze " + q, Graphs::lively, graph -> graph.freeze(quote, false));
        }
    }

    private static void refusesNodesThatAreNotThere(Check check) {
        check.holds("Promise 10 and Terms", "a node that isn't there or is of the wrong sort");
        for (int gone : Graphs.goneNodes(10)) {
            check.bad("freeze " + gone, Graphs::lively, graph -> graph.freeze(gone, true));
            check.bad("not freeze " + gone, Graphs::lively, graph -> graph.freeze(gone, false));
        }
    }

    private static void refusesAStaleOne(Check check) {
        check.holds("Promise 10", "it's STALE: IllegalStateException");
        for (int stale = 6; stale <= 8; stale++) {
            int n = stale;
            check.badState("freeze " + n, Graphs::lively, graph -> graph.freeze(n, true));
        }
        QuoteGraph graph = chain();
        graph.set(0, 81);
        check.badState("told by set", () -> graph.freeze(3, true));
        graph.value(2);
        graph.freeze(2, true);
        check.same("asked since", graph.node(2, 2), 1);
        check.badState("not asked since", () -> graph.freeze(3, true));
        check.same("not frozen", graph.node(3, 2), 0);
    }

    private static void refusesAStaleOneAfterTrouble(Check check) {
        check.holds("Promise 10", "it's STALE: IllegalStateException");
        QuoteGraph graph = Graphs.lively();
        check.arithmetic("value(6)", () -> graph.value(6));
        check.badState("not worked out by trouble", () -> graph.freeze(6, true));
        check.unsupported("value(7)", () -> graph.value(7));
        check.badState("not worked out by paths", () -> graph.freeze(7, true));
    }

    private static void isToldOfWhatItMissed(Check check) {
        check.holds("Promise 10",
                "and if it MISSED something since it was FROZEN, it is told now");
        QuoteGraph graph = chain();
        graph.freeze(2, true);
        graph.set(0, 90);
        check.same("told while frozen", graph.count(1), 0);
        graph.freeze(2, false);
        check.same("frozen", graph.node(2, 2), 0);
        check.same("both are stale", State.valid(graph), "1100");
        check.same("both are told", graph.count(1), 2);
        check.same("value(3)", graph.value(3), 98.0);
    }

    private static void isToldOnceOfAllThatItMissed(Check check) {
        check.holds("Promise 10",
                "and if it MISSED something since it was FROZEN, it is told now");
        QuoteGraph graph = chain();
        graph.freeze(2, true);
        graph.set(0, 90);
        graph.set(1, 9);
        graph.set(1, 8);
        graph.set(0, 80);
        graph.freeze(2, false);
        check.same("told, though the quotes are as they were", graph.count(1), 2);
        check.same("stale, though the quotes are as they were", State.valid(graph), "1100");
        check.same("value(3)", graph.value(3), 88.0);
    }

    private static void staysValidIfItMissedNothing(Check check) {
        check.holds("Promise 10",
                "and if it MISSED something since it was FROZEN, it is told now");
        QuoteGraph graph = chain();
        String before = State.of(graph);
        graph.freeze(2, true);
        graph.set(0, 80);
        graph.freeze(2, false);
        check.same("the graph", State.of(graph), before);
        check.same("told when it's no longer frozen", graph.set(0, 81), 2);
        QuoteGraph bumped = chain();
        bumped.freeze(2, true);
        bumped.bump(3, 0, 1);
        check.same("a bump is nothing to miss", bumped.node(2, 3), 0);
        bumped.freeze(2, false);
        check.same("valid after a bump", State.valid(bumped), "1111");
    }

    private static void forgetsWhatItMissedBefore(Check check) {
        check.holds("Promise 10",
                "and if it MISSED something since it was FROZEN, it is told now");
        QuoteGraph graph = chain();
        graph.freeze(2, true);
        graph.set(0, 90);
        graph.freeze(2, false);
        check.same("missed", graph.node(2, 3), 0);
        graph.value(3);
        graph.freeze(2, true);
        check.same("missed since it was frozen again", graph.node(2, 3), 0);
        graph.freeze(2, false);
        check.same("valid", State.valid(graph), "1111");
        check.same("count(1)", graph.count(1), 2);
    }

    private static void hasNothingToDoIfFrozenAlready(Check check) {
        check.holds("Promise 10", "As it was already: nothing.");
        QuoteGraph graph = chain();
        graph.freeze(2, true);
        String frozen = State.of(graph);
        graph.freeze(2, true);
        check.same("frozen twice", State.of(graph), frozen);
        graph.set(0, 90);
        String missed = State.of(graph);
        graph.freeze(2, true);
        check.same("frozen again after it missed something", State.of(graph), missed);
        graph.freeze(2, false);
        check.same("it's told of that", graph.count(1), 2);
    }

    private static void hasNothingToDoIfNotFrozenAlready(Check check) {
        check.holds("Promise 10", "As it was already: nothing.");
        for (int n : new int[] {3, 5, 6, 7, 8}) {
            QuoteGraph graph = Graphs.lively();
            String before = State.of(graph);
            graph.freeze(n, false);
            check.same("never frozen: " + n, State.of(graph), before);
        }
        QuoteGraph graph = chain();
        graph.freeze(2, true);
        graph.set(0, 90);
        graph.freeze(2, false);
        String told = State.of(graph);
        graph.freeze(2, false);
        check.same("told already", State.of(graph), told);
        graph.value(3);
        graph.freeze(2, false);
        check.same("valid again", State.valid(graph), "1111");
    }

    private static void passesTheWordToFrozenUsers(Check check) {
        check.holds("Promise 10",
                "and if it MISSED something since it was FROZEN, it is told now");
        QuoteGraph graph = chain();
        graph.freeze(2, true);
        graph.freeze(3, true);
        graph.set(0, 90);
        check.same("its user missed nothing yet", graph.node(3, 3), 0);
        graph.freeze(2, false);
        check.same("its user missed it now", graph.node(3, 3), 1);
        check.same("count(1)", graph.count(1), 1);
        check.same("value(2)", graph.value(2), 98.0);
        check.same("value(3)", graph.value(3), 88.0);
        graph.freeze(3, false);
        check.same("value(3) when not frozen", graph.value(3), 98.0);
        check.same("count(1) later", graph.count(1), 2);
    }
}
