/** Promise 6: terms. */
public final class TermsTest {
    public static void main(String[] args) {
        Check check = new Check();
        givesAndTakesParts(check);
        refusesNodesThatAreNotThere(check);
        takesTheEndsOfTheChance(check);
        makesItAmericanOrNot(check);
        refusesWhatIsNoOption(check);
        refusesTheOptionItself(check);
        refusesWhatUsesTheOption(check);
        refusesWhatUsesTheOptionThroughTerms(check);
        refusesAFrozenOption(check);
        leavesTheTermsWhenRefused(check);
        tellsTheOption(check);
        check.end();
    }

    private static QuoteGraph call() {
        QuoteGraph graph = Graphs.withOption(0, 80, 2);
        graph.value(2);
        return graph;
    }

    private static QuoteGraph frozenCall() {
        QuoteGraph graph = call();
        graph.freeze(2, true);
        return graph;
    }

    private static void givesAndTakesParts(Check check) {
        check.holds("Promise 6",
                "Gives OPTION o a rate and a knock (nodes, or -1 for none)");
        int[][] given = {{3, -1, 3}, {-1, 4, 3}, {3, 4, 4}, {4, 4, 4}, {0, 1, 4}, {-1, -1, 2}};
        QuoteGraph graph = Graphs.withOption(0, 80, 2);
        for (int[] row : given) {
            graph.terms(2, row[0], 8, false, row[1]);
            String call = "terms with " + row[0] + ", " + row[1];
            check.same("parts by " + call, graph.node(2, 4), row[2]);
            check.same("uses 3 by " + call, graph.uses(2, 3), row[0] == 3);
            check.same("uses 4 by " + call, graph.uses(2, 4), row[0] == 4 || row[1] == 4);
            check.same("uses 0 by " + call, graph.uses(2, 0), true);
        }
        QuoteGraph priced = Graphs.withOption(3, 0, 1);
        priced.set(3, 512);
        priced.set(4, 88);
        double[][] due = {{3, -1, 40}, {-1, 4, 36}, {3, 4, 18}, {-1, -1, 80}};
        for (double[] row : due) {
            priced.terms(2, (int) row[0], 8, false, (int) row[1]);
            check.same("value by " + row[0] + ", " + row[1], priced.value(2), row[2]);
        }
    }

    private static void refusesNodesThatAreNotThere(Check check) {
        check.holds("Promise 6",
                "Gives OPTION o a rate and a knock (nodes, or -1 for none)");
        for (int gone : Graphs.goneNodes(5)) {
            if (gone != -1) {
                check.bad("rate " + gone, TermsTest::call, g -> g.terms(2, gone, 8, true, 4));
                check.bad("knock " + gone, TermsTest::call, g -> g.terms(2, 3, 8, true, gone));
            }
        }
    }

    private static void takesTheEndsOfTheChance(Check check) {
        check.holds("Promise 6", "the CHANCE (1 .. 15)");
        QuoteGraph graph = Graphs.withOption(3, 0, 1);
        for (int chance = 1; chance <= 15; chance++) {
            graph.terms(2, -1, chance, false, -1);
            check.same("chance " + chance, graph.value(2), 72.0 + chance);
        }
        for (int chance : new int[] {0, 16, -1, 17, Integer.MIN_VALUE, Integer.MAX_VALUE}) {
            check.bad("chance " + chance, TermsTest::call, g -> g.terms(2, 3, chance, true, 4));
        }
    }

    private static void makesItAmericanOrNot(Check check) {
        check.holds("Promise 6", "makes it AMERICAN or not.");
        QuoteGraph graph = Graphs.withOption(2, 80, 2);
        graph.terms(2, -1, 8, true, -1);
        check.same("american: 100 at once", graph.value(2), 100.0);
        graph.terms(2, -1, 8, false, -1);
        check.same("no longer", graph.value(2), 75.0);
        graph.terms(2, -1, 8, true, -1);
        check.same("once more", graph.value(2), 100.0);
    }

    private static void refusesWhatIsNoOption(Check check) {
        check.holds("Promise 6 and Terms", "a node that isn't there or is of the wrong sort");
        for (int wrong : new int[] {0, 3, 4, 8}) {
            check.bad("o " + wrong, Graphs::lively, g -> g.terms(wrong, -1, 8, false, -1));
        }
        for (int gone : Graphs.goneNodes(10)) {
            check.bad("o " + gone, Graphs::lively, g -> g.terms(gone, -1, 8, false, -1));
        }
    }

    private static void refusesTheOptionItself(Check check) {
        check.holds("Promise 6", "Bad too if rate or knock is o or USES it.");
        check.bad("rate o", TermsTest::call, graph -> graph.terms(2, 2, 8, false, -1));
        check.bad("knock o", TermsTest::call, graph -> graph.terms(2, -1, 8, false, 2));
        check.bad("both o", TermsTest::call, graph -> graph.terms(2, 2, 8, false, 2));
        check.bad("rate 3, knock o", TermsTest::call, graph -> graph.terms(2, 3, 8, false, 2));
    }

    private static QuoteGraph withUsers() {
        QuoteGraph graph = call();
        graph.blend(2, 0, 1, 1);          // 5 uses the option
        graph.greater(0, 5);              // 6 uses it through 5
        graph.option(6, 1, 0, 80, 2);     // 7 uses it by its spot
        graph.option(0, 6, 0, 80, 2);     // 8 uses it by its move
        graph.option(0, 1, 0, 80, 2);     // 9 doesn't use it
        graph.greater(9, 3);              // 10 doesn't use it
        return graph;
    }

    private static void refusesWhatUsesTheOption(Check check) {
        check.holds("Promise 6", "Bad too if rate or knock is o or USES it.");
        for (int user = 5; user <= 8; user++) {
            int ring = user;
            check.bad("rate " + ring, TermsTest::withUsers, g -> g.terms(2, ring, 8, false, -1));
            check.bad("knock " + ring, TermsTest::withUsers, g -> g.terms(2, -1, 8, false, ring));
        }
        QuoteGraph graph = withUsers();
        graph.terms(2, 9, 8, false, 10);
        check.same("what doesn't use it is taken", graph.node(2, 4), 4);
        check.same("its users use that now", graph.uses(8, 10), true);
    }

    private static void refusesWhatUsesTheOptionThroughTerms(Check check) {
        check.holds("Promise 6", "Bad too if rate or knock is o or USES it.");
        QuoteGraph graph = withUsers();
        graph.terms(2, 9, 8, false, -1);
        check.bad("a ring through the rate", () -> graph.terms(9, -1, 8, false, 6));
        check.bad("a ring of two", () -> graph.terms(9, 2, 8, false, -1));
        graph.terms(2, -1, 8, false, 9);
        check.bad("a ring through the knock", () -> graph.terms(9, 6, 8, false, -1));
        graph.terms(2, -1, 8, false, -1);
        graph.terms(9, 6, 8, false, 6);
        check.same("the ring is gone with the knock", graph.uses(9, 2), true);
        check.bad("a ring the other way", () -> graph.terms(2, 9, 8, false, 9));
        check.bad("a ring the other way round", () -> graph.terms(2, 10, 8, false, -1));
    }

    private static void refusesAFrozenOption(Check check) {
        check.holds("Promise 6", "o is FROZEN: IllegalStateException.");
        check.badState("other terms", TermsTest::frozenCall, g -> g.terms(2, 3, 8, false, 4));
        check.badState("its terms", TermsTest::frozenCall, g -> g.terms(2, -1, 8, false, -1));
        check.holds("Promise 6 and Terms", "it comes before other troubles.");
        check.bad("rate o", TermsTest::frozenCall, graph -> graph.terms(2, 2, 8, false, -1));
        check.bad("rate -2", TermsTest::frozenCall, graph -> graph.terms(2, -2, 8, false, -1));
        check.bad("knock 5", TermsTest::frozenCall, graph -> graph.terms(2, -1, 8, false, 5));
        check.bad("chance 0", TermsTest::frozenCall, graph -> graph.terms(2, 3, 0, false, -1));
        check.bad("chance 16", TermsTest::frozenCall, graph -> graph.terms(2, 3, 16, false, -1));
        check.holds("Promise 6", "o is FROZEN: IllegalStateException.");
        QuoteGraph graph = frozenCall();
        graph.freeze(2, false);
        graph.terms(2, 3, 8, false, 4);
        check.same("taken when it's no longer frozen", graph.node(2, 4), 4);
        QuoteGraph other = frozenCall();
        other.option(0, 1, 0, 80, 2);
        other.terms(5, 2, 8, false, -1);
        check.same("a frozen rate is taken", other.node(5, 4), 3);
    }

    /** The terms themselves show only in the next working out. */
    private static void leavesTheTermsWhenRefused(Check check) {
        check.holds("Promise 6 and Terms", "then nothing has changed but what is said above.");
        QuoteGraph graph = Graphs.withOption(2, 80, 2);
        graph.set(3, 512);
        graph.value(2);
        check.bad("chance 16", () -> graph.terms(2, 3, 16, true, 4));
        check.bad("rate -2", () -> graph.terms(2, -2, 1, true, 4));
        check.bad("knock 5", () -> graph.terms(2, 3, 1, true, 5));
        graph.freeze(2, true);
        check.badState("frozen", () -> graph.terms(2, 3, 1, true, 4));
        graph.freeze(2, false);
        check.same("set(0, 80.125)", graph.set(0, 80.125), 1);
        check.same("by the terms that it had", graph.value(2), 75.0);
        check.same("set(3, 0)", graph.set(3, 0), 0);
        check.same("set(4, 0)", graph.set(4, 0), 0);
    }

    private static void tellsTheOption(Check check) {
        check.holds("Promise 6", "Then o is told.");
        QuoteGraph graph = Graphs.withOption(0, 80, 2);
        int user = graph.blend(2, 0, 1, 1);
        graph.terms(2, -1, 8, false, -1);
        check.same("told while stale", graph.count(1), 0);
        graph.value(user);
        graph.terms(2, -1, 8, false, -1);
        check.same("told by the terms that it had", graph.count(1), 2);
        check.same("stale", graph.node(2, 1), 0);
        check.same("its user is stale", graph.node(user, 1), 0);
        graph.value(user);
        graph.freeze(user, true);
        graph.terms(2, 3, 8, false, -1);
        check.same("told alone", graph.count(1), 3);
        check.same("its frozen user missed it", graph.node(user, 3), 1);
        check.same("and is valid", graph.node(user, 1), 1);
        graph.value(2);
        check.same("told by its new rate", graph.set(3, 1), 1);
        graph.terms(2, -1, 8, false, -1);
        graph.value(2);
        check.same("not told by a rate that is gone", graph.set(3, 2), 0);
    }
}
