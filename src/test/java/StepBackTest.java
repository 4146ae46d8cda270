/** "Terms", on a step back to the time before: the chance, the rate, the knock and early use. */
public final class StepBackTest {
    public static void main(String[] args) {
        Check check = new Check();
        weighsByTheChance(check);
        takesTheWholePartOfTheRate(check);
        takesNothingWithoutARate(check);
        theRateMustBe0To1024(check);
        isRounded(check);
        isRoundedAtEachTime(check);
        isNothingAtTheKnock(check);
        isRoundedBeforeItIsKnockedOut(check);
        isUsedEarlyIfAmerican(check);
        isNotUsedAtTheKnock(check);
        isItselfOtherwise(check);
        check.end();
    }

    private static void weighsByTheChance(Check check) {
        check.holds("Terms", "with y = (CHANCE a + (16 - CHANCE) b) / 16");
        QuoteGraph graph = Graphs.withOption(2, 80, 1);
        for (int chance = 1; chance <= 15; chance++) {
            graph.terms(2, -1, chance, false, -1);
            check.same("100 and 0 by " + chance, graph.value(2), chance * 6.25);
        }
    }

    /** A forward of 80 by one step of an engine, with a rate of a whole number and some 1/1024. */
    private static double byRate(double whole, double units, int engine) {
        QuoteGraph graph = Graphs.largeAndSmall();
        graph.quote(whole);
        int rate = graph.blend(5, 4, 1, units);
        int spot = graph.quote(80);
        int o = graph.option(spot, graph.quote(8), 3, 0, 1);
        graph.engine(o, engine, engine / 2);
        graph.terms(o, rate, engine == 1 ? 13 : 8, false, -1);
        return graph.value(o);
    }

    private static void takesTheWholePartOfTheRate(Check check) {
        check.holds("Terms", "g the greatest whole number not above r");
        for (int engine = 0; engine <= 2; engine++) {
            double all = engine == 1 ? 88 : 80;
            check.same("0", byRate(0, 0, engine), all);
            check.same("1 less 1/1024", byRate(1, -1, engine), all);
            check.same("1", byRate(1, 0, engine), all - all / 1024);
            check.same("2 less 1/1024", byRate(2, -1, engine), all - all / 1024);
            check.same("2", byRate(2, 0, engine), all - all / 512);
            check.same("512", byRate(512, 0, engine), all / 2);
            check.same("1023.875", byRate(1023.875, 0, engine), all / 1024);
        }
    }

    private static void takesNothingWithoutARate(Check check) {
        check.holds("Terms", "(0 without a rate)");
        for (int engine = 0; engine <= 2; engine++) {
            QuoteGraph graph = Graphs.withOption(3, 0, 20);
            graph.terms(2, -1, engine == 1 ? 15 : 8, false, 4);
            graph.engine(2, engine, engine);
            double without = graph.value(2);
            graph.terms(2, 3, engine == 1 ? 15 : 8, false, 4);
            check.same("as with a rate of 0 by " + engine, graph.value(2), without);
        }
        QuoteGraph graph = Graphs.withOption(3, 0, 20);
        check.same("80 after 20 steps", graph.value(2), 80.0);
    }

    private static void theRateMustBe0To1024(Check check) {
        check.holds("Terms", "g must be 0 .. 1024 (else ArithmeticException)");
        for (int engine = 0; engine <= 2; engine++) {
            int by = engine;
            double all = engine == 1 ? 88 : 80;
            check.same("0 by " + by, byRate(0, 0, by), all);
            check.arithmetic("-1/1024 by " + by, () -> byRate(0, -1, by));
            check.arithmetic("-1 by " + by, () -> byRate(-1, 0, by));
            check.same("1024 by " + by, byRate(1024, 0, by), 0.0);
            check.same("1025 less 1/1024 by " + by, byRate(1025, -1, by), 0.0);
            check.arithmetic("1025 by " + by, () -> byRate(1025, 0, by));
            check.arithmetic("100000 by " + by, () -> byRate(100000, 0, by));
            check.arithmetic("-100000 by " + by, () -> byRate(-100000, 0, by));
        }
    }

    /** A forward of some 1/1024, up or down from there by as many, after steps with a rate. */
    private static double smallForward(double units, double move, int steps, double rate) {
        QuoteGraph graph = Graphs.largeAndSmall();
        int spot = graph.blend(4, 4, units, 0);
        int o = graph.option(spot, graph.blend(4, 4, move, 0), 3, 0, steps);
        graph.terms(o, graph.quote(rate), 8, false, -1);
        return graph.value(o) / Graphs.UNIT;
    }

    private static void isRounded(Check check) {
        check.holds("Terms", "A STEP BACK from values a (up), b (down) to the time before:"
                + " ROUNDED(D * y)");
        check.same("3 by a half", smallForward(3, 1, 1, 512), 2.0);
        check.same("-3 by a half", smallForward(-3, 1, 1, 512), -1.0);
        check.same("5 by a quarter", smallForward(5, 1, 1, 768), 1.0);
        check.same("6 by a quarter", smallForward(6, 1, 1, 768), 2.0);
        check.same("-6 by a quarter", smallForward(-6, 1, 1, 768), -1.0);
        check.same("-7 by a quarter", smallForward(-7, 1, 1, 768), -2.0);
    }

    private static void isRoundedAtEachTime(Check check) {
        check.holds("Terms", "A STEP BACK from values a (up), b (down) to the time before:"
                + " ROUNDED(D * y)");
        // -3, 5, 13 by halves is 1, 5 and then 2; unrounded it were 1.25.
        check.same("5 by a half, twice", smallForward(5, 4, 2, 512), 2.0);
        // -1, 1, 3 by halves is 0, 1 and then 0.25.
        check.same("1 by a half, twice", smallForward(1, 1, 2, 512), 0.0);
    }

    private static void isNothingAtTheKnock(Check check) {
        check.holds("Terms", "At a price x of the earlier time it is then: 0, if there is a knock"
                + " and x is k or more");
        // Two steps of 8 from 80 to 64, 80 and 96, over 72 and 88.
        double[][] due = {
            {96.125, 80}, {96, 56}, {88.125, 56}, {88, 36}, {80.125, 36}, {80, 0}, {79.875, 0},
            {-100000, 0}
        };
        QuoteGraph graph = Graphs.withOption(3, 0, 2);
        graph.terms(2, -1, 8, false, 4);
        for (double[] row : due) {
            graph.set(4, row[0]);
            check.same("knock " + row[0], graph.value(2), row[1]);
        }
        QuoteGraph fine = Graphs.largeAndSmall();
        fine.quote(80);
        int move = fine.quote(8);
        int above = fine.blend(5, 4, 1, 1);
        int o = fine.option(5, move, 3, 0, 1);
        fine.terms(o, -1, 8, false, above);
        check.same("80 is below 80 and 1/1024", fine.value(o), 36.0);
        fine.terms(o, -1, 8, false, 5);
        check.same("80 is 80", fine.value(o), 0.0);
    }

    private static void isRoundedBeforeItIsKnockedOut(Check check) {
        check.holds("Terms", "At a price x of the earlier time it is then: 0, if there is a knock"
                + " and x is k or more");
        QuoteGraph graph = new QuoteGraph();
        graph.quote(-100000);
        int spot = graph.blend(0, 0, 10, 0);
        int move = graph.blend(0, 0, -10, 0);
        int o = graph.option(spot, move, 3, 100000, 1);
        graph.terms(o, -1, 1, false, spot);
        // The price below is not out, and a step back from its payoff is too large.
        check.arithmetic("out at the spot", () -> graph.value(o));
        graph.terms(o, -1, 15, false, spot);
        check.same("out at the spot by a greater chance", graph.value(o), 0.0);
    }

    private static void isUsedEarlyIfAmerican(Check check) {
        check.holds("Terms", "else, if AMERICAN, the greater of it and PAYOFF(x)");
        QuoteGraph graph = Graphs.withOption(1, 100, 2);
        graph.terms(2, 3, 8, true, -1);
        check.same("20 at once or later", graph.value(2), 20.0);
        graph.set(3, 512);
        check.same("20 at once, not 5", graph.value(2), 20.0);
        graph.set(0, 100);
        // At 92 it's used for 8, so that it is worth 4 by half, and 2 a step before.
        check.same("used after a step", graph.value(2), 2.0);
        QuoteGraph forward = Graphs.withOption(3, 100, 1);
        forward.terms(2, 3, 8, true, -1);
        check.same("-20 at once or later", forward.value(2), -20.0);
        forward.set(3, 512);
        check.same("-10 later, not -20", forward.value(2), -10.0);
    }

    private static void isNotUsedAtTheKnock(Check check) {
        check.holds("Terms", "At a price x of the earlier time it is then: 0, if there is a knock"
                + " and x is k or more");
        QuoteGraph graph = Graphs.withOption(3, 0, 2);
        graph.terms(2, -1, 8, true, 4);
        double[][] due = {{88, 80}, {80.125, 80}, {80, 0}, {72, 0}};
        for (double[] row : due) {
            graph.set(4, row[0]);
            check.same("knock " + row[0], graph.value(2), row[1]);
        }
        QuoteGraph lost = Graphs.withOption(3, 100, 1);
        lost.set(4, 80);
        lost.terms(2, -1, 8, false, 4);
        check.same("nothing to lose at the knock either", lost.value(2), 0.0);
    }

    private static void isItselfOtherwise(Check check) {
        check.holds("Terms", "else itself.");
        QuoteGraph graph = Graphs.withOption(1, 100, 2);
        graph.set(3, 512);
        graph.terms(2, 3, 8, false, -1);
        check.same("5 later, though 20 could be had at once", graph.value(2), 5.0);
        graph.terms(2, 3, 8, false, 4);
        check.same("with a knock that isn't reached", graph.value(2), 5.0);
    }
}
