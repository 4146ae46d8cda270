/** "Terms", on numbers: what may be given, how it is rounded, and what is too large. */
public final class NumbersTest {
    private static final String ROUNDED_TOO_LARGE =
            "A result (of ROUNDED, or any value of a NODE) above 1000000 or below -1000000 is TOO"
            + " LARGE: ArithmeticException.";

    public static void main(String[] args) {
        Check check = new Check();
        takesMultiplesOfAnEighth(check);
        refusesOtherNumbers(check);
        areExact(check);
        roundsToTheNearest(check);
        aBlendMayBeTooLarge(check);
        aStepOfALatticeMayBeTooLarge(check);
        theMeanOfPathsMayBeTooLarge(check);
        aStepOfANetMayBeTooLarge(check);
        aStepOnTheWayMayBeTooLarge(check);
        anyValueOfANodeMayBeTooLarge(check);
        whatIsNoResultIsNotTooLarge(check);
        check.end();
    }

    private interface Giving {
        void give(QuoteGraph graph, double number);
    }

    /** Every number that a call is given, in calls that are right but for that number. */
    private static Giving[] givings() {
        return new Giving[] {
            (graph, number) -> graph.quote(number),
            (graph, number) -> graph.blend(0, 1, number, 1),
            (graph, number) -> graph.blend(0, 1, 1, number),
            (graph, number) -> graph.option(0, 1, 0, number, 1),
            (graph, number) -> graph.set(0, number),
            (graph, number) -> graph.bump(3, 0, number),
        };
    }

    private static void takesMultiplesOfAnEighth(Check check) {
        check.holds("Terms", "those that are given must be multiples of 0.125 (else out of range)");
        double[] taken = {0, -0.0, 0.125, -0.125, 0.25, 0.375, 0.875, -0.875, 1, 15.875, -15.875};
        Giving[] givings = givings();
        for (int i = 0; i < givings.length; i++) {
            Giving giving = givings[i];
            for (double number : taken) {
                check.taken("number " + i + " of " + number,
                        () -> giving.give(Graphs.lively(), number));
            }
        }
        QuoteGraph graph = new QuoteGraph();
        graph.quote(-0.125);
        check.same("an eighth below 0", graph.value(0), -0.125);
    }

    private static void refusesOtherNumbers(Check check) {
        check.holds("Terms", "those that are given must be multiples of 0.125 (else out of range)");
        double[] others = {
            0.1, 0.0625, -0.0625, 0.06, 0.13, 0.1875, 15.9375, -15.9375, 1.0 / 1024, -1.0 / 1024,
            Math.nextUp(0.0), Math.nextDown(0.0), Math.nextUp(1.0), Math.nextDown(1.0),
            Math.nextUp(-16.0), Math.nextDown(16.0), Double.NaN
        };
        Giving[] givings = givings();
        for (int i = 0; i < givings.length; i++) {
            Giving giving = givings[i];
            for (double number : others) {
                check.bad("number " + i + " of " + number, Graphs::lively,
                        graph -> giving.give(graph, number));
            }
        }
    }

    private static void areExact(Check check) {
        check.holds("Terms", "NUMBERS are exact");
        QuoteGraph graph = Graphs.largeAndSmall();
        graph.set(0, 99999.875);
        check.same("9.875 99999.875", graph.value(graph.blend(0, 0, 9.875, 0)), 987498.765625);
        int more = graph.blend(0, 4, 9.875, 1);
        check.same("and 1/1024", graph.value(more), 987498.765625 + Graphs.UNIT);
        int less = graph.blend(0, 4, -9.875, -1);
        check.same("of both signs", graph.value(graph.blend(more, less, 1, 1)), 0.0);
        check.same("bump by 0.125", graph.bump(more, 0, 0.125), 1.234375);
    }

    private static void roundsToTheNearest(Check check) {
        check.holds("Terms",
                "ROUNDED(y) is the greatest multiple of 1/1024 not above y + 1/2048.");
        // Quarters of 1/1024, from weights of 1/512.
        double[] weights = {0, 0.125, 0.25, 0.375, 0.5, 0.625, 0.75, 0.875};
        int[] above = {0, 0, 1, 1, 1, 1, 2, 2};
        int[] below = {0, 0, 0, -1, -1, -1, -1, -2};
        for (int i = 0; i < weights.length; i++) {
            QuoteGraph graph = Graphs.largeAndSmall();
            int up = graph.blend(3, 3, weights[i], 0);
            int down = graph.blend(3, 3, 0, -weights[i]);
            check.same("1/512 by " + weights[i], graph.value(up), above[i] / 1024.0);
            check.same("1/512 by -" + weights[i], graph.value(down), below[i] / 1024.0);
        }
    }

    private static double blendOfLarge(double largeWeight, double smallWeight) {
        QuoteGraph graph = Graphs.largeAndSmall();
        return graph.value(graph.blend(0, 3, largeWeight, smallWeight));
    }

    private static void aBlendMayBeTooLarge(Check check) {
        check.holds("Terms", ROUNDED_TOO_LARGE);
        check.same("1000000", blendOfLarge(10, 0), 1000000.0);
        check.same("1000000 + 1/4096", blendOfLarge(10, 0.125), 1000000.0);
        check.arithmetic("1000000 + 1/2048", () -> blendOfLarge(10, 0.25));
        check.arithmetic("1000000 + 1/1024", () -> blendOfLarge(10, 0.5));
        check.same("1000000 - 1/1024", blendOfLarge(10, -0.5), 1000000 - Graphs.UNIT);
        check.same("-1000000", blendOfLarge(-10, 0), -1000000.0);
        check.same("-1000000 - 1/2048", blendOfLarge(-10, -0.25), -1000000.0);
        check.arithmetic("-1000000 - 3/4096", () -> blendOfLarge(-10, -0.375));
        check.arithmetic("-1000000 - 1/1024", () -> blendOfLarge(-10, -0.5));
        check.arithmetic("1600000", () -> blendOfLarge(16, 0));
        check.arithmetic("-1600000", () -> blendOfLarge(-16, 0));
        QuoteGraph graph = Graphs.largeAndSmall();
        int half = graph.blend(0, 0, -15, 5);
        check.same("a term may be larger than the sum", graph.value(half), -1000000.0);
        int large = graph.blend(0, 0, 10, 0.125);
        QuoteGraph after = check.arithmetic("1012500", () -> graph, made -> made.value(large));
        check.same("it's stale", after.node(large, 1), 0);
        check.same("it isn't worked out", after.node(large, 5), 0);
    }

    /** A forward of strike 0 by one step of 1/1024 from a spot some 1/1024 off the large blend. */
    private static double forward(double tens, double units, int chance, int engine, int size) {
        QuoteGraph graph = Graphs.largeAndSmall();
        int spot = graph.blend(0, 4, tens, units);
        int o = graph.option(spot, 4, 3, 0, 1);
        graph.terms(o, -1, chance, false, -1);
        graph.engine(o, engine, size);
        return graph.value(o);
    }

    private static void aStepOfALatticeMayBeTooLarge(Check check) {
        check.holds("Terms", ROUNDED_TOO_LARGE);
        check.same("1000000", forward(10, 0, 8, 0, 0), 1000000.0);
        check.same("1000000 + 3/8192", forward(10, 0, 11, 0, 0), 1000000.0);
        check.arithmetic("1000000 + 1/2048", () -> forward(10, 0, 12, 0, 0));
        check.same("1000000 - 1/2048", forward(10, -1, 12, 0, 0), 1000000.0);
        check.same("-1000000", forward(-10, 0, 8, 0, 0), -1000000.0);
        check.same("-1000000 - 1/2048", forward(-10, 0, 4, 0, 0), -1000000.0);
        check.arithmetic("-1000000 - 5/8192", () -> forward(-10, 0, 3, 0, 0));
        check.same("-1000000 + 3/8192", forward(-10, 1, 3, 0, 0), -1000000.0);
    }

    private static void theMeanOfPathsMayBeTooLarge(Check check) {
        check.holds("Terms", ROUNDED_TOO_LARGE);
        // The first draw is 12: up by a chance of 13, down by one of 12.
        check.same("up to 1000000", forward(10, -1, 13, 1, 0), 1000000.0);
        check.arithmetic("up to 1000000 + 1/1024", () -> forward(10, 0, 13, 1, 0));
        check.same("down from 1000000", forward(10, 0, 12, 1, 0), 1000000 - Graphs.UNIT);
        check.same("down to -1000000", forward(-10, 1, 12, 1, 0), -1000000.0);
        check.arithmetic("down to -1000000 - 1/1024", () -> forward(-10, 0, 12, 1, 0));
        check.same("up from -1000000", forward(-10, 0, 13, 1, 0), -1000000 + Graphs.UNIT);
        check.same("a mean of 1000000, with one end above", forward(10, 0, 8, 1, 1), 1000000.0);
    }

    private static double net(double tens, double strike) {
        QuoteGraph graph = Graphs.largeAndSmall();
        int spot = graph.blend(0, 0, tens, 0);
        int o = graph.option(spot, 4, 3, strike, 1);
        graph.engine(o, 2, 1);
        return graph.value(o);
    }

    private static void aStepOfANetMayBeTooLarge(Check check) {
        check.holds("Terms", ROUNDED_TOO_LARGE);
        check.same("1000000", net(10, 0), 1000000.0);
        check.arithmetic("1000000.125", () -> net(10, -0.125));
        check.same("999999.875", net(10, 0.125), 999999.875);
        check.same("-1000000", net(-10, 0), -1000000.0);
        check.arithmetic("-1000000.125", () -> net(-10, 0.125));
        check.same("-999999.875", net(-10, -0.125), -999999.875);
    }

    private static double richForward(int steps, int engine, int size) {
        QuoteGraph graph = Graphs.largeAndSmall();
        int spot = graph.blend(0, 0, 9, 0);
        int o = graph.option(spot, 0, 3, -100000, steps);
        graph.engine(o, engine, size);
        return graph.value(o);
    }

    private static void aStepOnTheWayMayBeTooLarge(Check check) {
        check.holds("Terms", ROUNDED_TOO_LARGE);
        // At 1000000 the payoff is 1100000; only what stands between the ends is rounded.
        check.same("one step of a lattice", richForward(1, 0, 0), 1000000.0);
        check.arithmetic("1100000 within a lattice", () -> richForward(2, 0, 0));
        check.same("two steps of a net of size 1", richForward(2, 2, 1), 1000000.0);
        check.arithmetic("1100000 within a net", () -> richForward(1, 2, 2));
        QuoteGraph graph = Graphs.largeAndSmall();
        graph.quote(1024);
        int spot = graph.blend(0, 0, 9, 0);
        int o = graph.option(spot, 0, 3, -99999.875, 1);
        graph.terms(o, 5, 13, false, -1);
        graph.engine(o, 1, 0);
        check.arithmetic("the mean of paths, of which nothing would be left",
                () -> graph.value(o));
    }

    /** An american forward of strike -0.125 of which a rate of 1024 leaves nothing for later. */
    private static double american(double eighthWeight, int engine, int size) {
        QuoteGraph graph = Graphs.largeAndSmall();
        graph.quote(1024);
        int less = graph.blend(1, 4, 1, eighthWeight);
        int spot = graph.blend(0, less, 10, -1);
        int o = graph.option(spot, 4, 3, -0.125, 1);
        graph.terms(o, 5, 8, true, -1);
        graph.engine(o, engine, size);
        return graph.value(o);
    }

    private static void anyValueOfANodeMayBeTooLarge(Check check) {
        check.holds("Terms", ROUNDED_TOO_LARGE);
        check.same("used at 1000000", american(0, 0, 0), 1000000.0);
        check.arithmetic("used at 1000000 + 1/1024", () -> american(-1, 0, 0));
        check.same("used at 1000000 - 1/1024", american(1, 0, 0), 1000000 - Graphs.UNIT);
        check.same("used at 1000000 in a net", american(0, 2, 1), 1000000.0);
        check.arithmetic("used at 1000000 + 1/1024 in a net", () -> american(-1, 2, 1));
    }

    private static void whatIsNoResultIsNotTooLarge(Check check) {
        check.holds("Terms", ROUNDED_TOO_LARGE);
        QuoteGraph graph = Graphs.largeAndSmall();
        graph.quote(1024);
        int spot = graph.blend(0, 0, 9, 0);
        int ends = graph.option(spot, 0, 3, -100000, 1);
        check.same("payoffs of 1100000 and 900000", graph.value(ends), 1000000.0);
        int early = graph.option(spot, 0, 0, -100000, 2);
        graph.terms(early, 5, 1, true, -1);
        check.same("1100000 at a later time", graph.value(early), 1000000.0);
        int outermost = graph.option(spot, graph.blend(0, 0, 10, 0), 0, 100000, 1);
        graph.terms(outermost, -1, 1, false, -1);
        graph.engine(outermost, 2, 1);
        // 0, 800000 and 1800000.
        check.same("an outermost value of 1800000", graph.value(outermost), 812500.0);
    }
}
