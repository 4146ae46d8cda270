/** Promise 6: terms. */
public final class TermsTest {
    public static void main(String[] args) {
        Check check = new Check();
        givesAndTakesParts(check);
        weighsByChance(check);
        discountsByWholeRates(check);
        roundsEachStep(check);
        knocksOut(check);
        roundsBeforeItKnocksOut(check);
        mayBeUsedEarly(check);
        earlyUseMayBeTooLarge(check);
        tellsTheOption(check);
        refusesRings(check);
        refusesBadOnes(check);
        refusesFrozenOnes(check);
        check.end();
    }

    /** An option on 80 and 8 (node 2), with the quotes 3 and 4 free for a rate and a knock. */
    private static QuoteGraph withOption(int kind, double strike, int steps) {
        QuoteGraph graph = Check.spotAndMove();
        graph.option(0, 1, kind, strike, steps);
        graph.quote(0);
        graph.quote(0);
        return graph;
    }

    private static void givesAndTakesParts(Check check) {
        QuoteGraph graph = withOption(0, 80, 2);
        int[][] given = {{3, -1, 3}, {-1, 4, 3}, {3, 4, 4}, {4, 4, 4}, {0, 1, 4}, {-1, -1, 2}};
        for (int[] row : given) {
            graph.terms(2, row[0], 8, false, row[1]);
            String call = "terms with " + row[0] + ", " + row[1];
            check.same("parts by " + call, graph.node(2, 4), row[2]);
            check.same("uses 3 by " + call, graph.uses(2, 3), row[0] == 3);
            check.same("uses 4 by " + call, graph.uses(2, 4), row[0] == 4 || row[1] == 4);
            check.same("uses 0 by " + call, graph.uses(2, 0), true);
        }
    }

    private static void weighsByChance(Check check) {
        QuoteGraph graph = withOption(3, 0, 1);
        for (int chance = 1; chance <= 15; chance++) {
            graph.terms(2, -1, chance, false, -1);
            check.same("chance " + chance, graph.value(2), 72.0 + chance);
        }
    }

    private static void discountsByWholeRates(Check check) {
        QuoteGraph graph = withOption(3, 0, 2);
        graph.terms(2, 3, 8, false, -1);
        double[][] due = {
            {0, 80}, {0.875, 80}, {256, 45}, {256.875, 45}, {512, 20}, {1024, 0}, {1024.875, 0}};
        for (double[] row : due) {
            graph.set(3, row[0]);
            check.same("rate " + row[0], graph.value(2), row[1]);
        }
        for (double beyond : new double[] {-0.125, -1, 1025, 100000, -100000}) {
            graph.set(3, beyond);
            check.arithmetic("rate " + beyond, () -> graph.value(2));
        }
    }

    private static void roundsEachStep(Check check) {
        QuoteGraph graph = new QuoteGraph();
        graph.quote(0.125);
        graph.quote(0.125);
        graph.quote(1023);
        int one = graph.option(0, 1, 3, 0, 1);
        graph.terms(one, 2, 8, false, -1);
        check.same("0.125 / 1024 is no 1/2048", graph.value(one), 0.0);
        graph.set(0, 0.5);
        check.same("0.5 / 1024 is 1/2048", graph.value(one), 1.0 / 1024);
        graph.set(0, -0.5);
        check.same("-0.5 / 1024", graph.value(one), 0.0);
        graph.set(0, -0.625);
        check.same("-0.625 / 1024", graph.value(one), -1.0 / 1024);
        graph.set(0, 0.125);
        graph.set(2, 512);
        int small = graph.blend(0, 0, 0.125, 0);
        int smaller = graph.blend(small, small, 0.125, 0);
        int spot = graph.blend(smaller, smaller, 2.5, 0);
        int move = graph.blend(smaller, smaller, 2, 0);
        int two = graph.option(spot, move, 3, 0, 2);
        graph.terms(two, 2, 8, false, -1);
        // In 1/1024: -3, 5, 13 by halves is 1, 5 and then 2; unrounded it were 1.25.
        check.same("rounded at each step", graph.value(two), 2.0 / 1024);
    }

    private static void knocksOut(Check check) {
        QuoteGraph graph = withOption(3, 0, 2);
        graph.terms(2, -1, 8, false, 4);
        double[][] due = {
            {96.125, 80}, {96, 56}, {88.125, 56}, {88, 36}, {80.125, 36}, {80, 0}, {-100000, 0}};
        for (double[] row : due) {
            graph.set(4, row[0]);
            check.same("knock " + row[0], graph.value(2), row[1]);
        }
        graph.set(4, 88);
        graph.terms(2, -1, 8, true, 4);
        check.same("used at once, for it isn't out", graph.value(2), 80.0);
        graph.set(4, 80);
        check.same("out, so not used", graph.value(2), 0.0);
    }

    private static void roundsBeforeItKnocksOut(Check check) {
        QuoteGraph graph = new QuoteGraph();
        graph.quote(-100000);
        int spot = graph.blend(0, 0, 10, 0);
        int move = graph.blend(0, 0, -10, 0);
        int o = graph.option(spot, move, 3, 100000, 1);
        graph.terms(o, -1, 1, false, spot);
        // The price below is not out, and a step back from its payoff is too large.
        check.arithmetic("out at the spot", () -> graph.value(o));
        graph.terms(o, -1, 15, false, spot);
        check.same("out at the spot by a greater chance", graph.value(o), 0.0);
    }

    private static void mayBeUsedEarly(Check check) {
        QuoteGraph graph = withOption(1, 100, 2);
        graph.terms(2, 3, 8, true, -1);
        graph.set(3, 512);
        check.same("used at once", graph.value(2), 20.0);
        graph.terms(2, 3, 8, false, -1);
        check.same("not early", graph.value(2), 5.0);
        graph.terms(2, 3, 8, true, -1);
        graph.set(0, 100);
        // At 92 it's used for 8, so that it is worth 4 by half, and 2 a step before.
        check.same("used after a step", graph.value(2), 2.0);
    }

    private static void earlyUseMayBeTooLarge(Check check) {
        QuoteGraph graph = new QuoteGraph();
        graph.quote(100000);
        graph.quote(1024);
        int spot = graph.blend(0, 0, 9, 0);
        int rich = graph.blend(0, 0, 10, 0);
        int o = graph.option(spot, 0, 3, -100000, 1);
        graph.terms(o, 1, 8, true, -1);
        check.same("used at 1000000", graph.value(o), 1000000.0);
        int above = graph.option(rich, 0, 3, -0.125, 1);
        graph.terms(above, 1, 8, true, -1);
        check.arithmetic("used at 1000000.125", () -> graph.value(above));
        int within = graph.option(spot, 0, 0, -100000, 2);
        graph.terms(within, 1, 1, true, -1);
        check.same("1100000 at a later time", graph.value(within), 1000000.0);
    }

    private static void tellsTheOption(Check check) {
        QuoteGraph graph = withOption(0, 80, 2);
        int user = graph.blend(2, 0, 1, 1);
        graph.terms(2, -1, 8, false, -1);
        check.same("told while stale", graph.count(1), 0);
        graph.value(user);
        graph.terms(2, -1, 8, false, -1);
        check.same("told with what it had", graph.count(1), 2);
        check.same("stale", graph.node(2, 1), 0);
        check.same("its user is stale", graph.node(user, 1), 0);
        graph.value(user);
        graph.freeze(user, true);
        graph.terms(2, 3, 8, false, -1);
        check.same("told alone", graph.count(1), 3);
        check.same("its frozen user missed it", graph.node(user, 3), 1);
    }

    private static void refusesRings(Check check) {
        QuoteGraph graph = withOption(0, 80, 2);
        int user = graph.blend(2, 0, 1, 1);
        int above = graph.greater(0, user);
        int other = graph.option(0, 1, 0, 80, 2);
        for (int ring : new int[] {2, user, above}) {
            check.bad("rate " + ring, () -> graph.terms(2, ring, 8, false, -1));
            check.bad("knock " + ring, () -> graph.terms(2, -1, 8, false, ring));
        }
        graph.terms(2, other, 8, false, -1);
        check.bad("a ring through the rate", () -> graph.terms(other, -1, 8, false, above));
        graph.terms(2, -1, 8, false, -1);
        graph.terms(other, above, 8, false, above);
        check.same("the ring is gone with the rate", graph.uses(other, 2), true);
        check.bad("a ring through both", () -> graph.terms(2, other, 8, false, other));
    }

    private static void refusesBadOnes(Check check) {
        QuoteGraph graph = withOption(0, 80, 2);
        graph.blend(0, 1, 1, 1);
        graph.value(2);
        for (int wrong : new int[] {0, 5, 6, -1, 16, Integer.MIN_VALUE, Integer.MAX_VALUE}) {
            check.bad("option " + wrong, () -> graph.terms(wrong, -1, 8, false, -1));
        }
        for (int gone : new int[] {-2, 6, 16, Integer.MIN_VALUE, Integer.MAX_VALUE}) {
            check.bad("rate " + gone, () -> graph.terms(2, gone, 8, true, 4));
            check.bad("knock " + gone, () -> graph.terms(2, 3, 8, true, gone));
        }
        for (int chance : new int[] {0, 16, -1, Integer.MIN_VALUE, Integer.MAX_VALUE}) {
            check.bad("chance " + chance, () -> graph.terms(2, 3, chance, true, 4));
        }
        check.same("parts after bad ones", graph.node(2, 4), 2);
        check.same("valid after bad ones", graph.node(2, 1), 1);
        check.same("told after bad ones", graph.count(1), 0);
    }

    private static void refusesFrozenOnes(Check check) {
        QuoteGraph graph = withOption(0, 80, 2);
        graph.value(2);
        graph.freeze(2, true);
        check.badState("frozen", () -> graph.terms(2, 3, 8, false, 4));
        check.bad("frozen and bad", () -> graph.terms(2, 2, 8, false, -1));
        check.bad("frozen and a bad chance", () -> graph.terms(2, 3, 0, false, -1));
        check.same("parts", graph.node(2, 4), 2);
        check.same("missed", graph.node(2, 3), 0);
        graph.freeze(2, false);
        graph.terms(2, 3, 8, false, 4);
        check.same("parts when not frozen", graph.node(2, 4), 4);
    }
}
