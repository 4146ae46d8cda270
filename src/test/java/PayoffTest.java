/** "Terms", on the move of an option and its payoff at a price. */
public final class PayoffTest {
    public static void main(String[] args) {
        Check check = new Check();
        theMoveMustBeAboveZero(check);
        ofACall(check);
        ofAPut(check);
        ofADigital(check);
        ofAForward(check);
        isNothingAtTheKnock(check);
        isNothingAboveTheKnock(check);
        check.end();
    }

    private static double byMove(double units, int engine, int size) {
        QuoteGraph graph = Graphs.largeAndSmall();
        int move = graph.blend(4, 4, units, 0);
        int o = graph.option(1, move, 3, 0, 1);
        graph.engine(o, engine, size);
        graph.terms(o, -1, 1, false, -1);
        return graph.value(o);
    }

    private static void theMoveMustBeAboveZero(Check check) {
        check.holds("Terms", "u must be above 0 (else ArithmeticException)");
        int[] sizes = {0, 0, 1};
        double[] due = {0.125 - Graphs.UNIT, 0.125 - Graphs.UNIT, 0.125};
        for (int engine = 0; engine <= 2; engine++) {
            int chosen = engine;
            int size = sizes[engine];
            check.same("1/1024 by " + engine, byMove(1, engine, size), due[engine]);
            check.arithmetic("0 by " + engine, () -> byMove(0, chosen, size));
            check.arithmetic("-1/1024 by " + engine, () -> byMove(-1, chosen, size));
        }
        QuoteGraph graph = Graphs.withOption(3, 0, 1);
        for (double move : new double[] {0, -0.125, -100000}) {
            graph.set(1, move);
            check.arithmetic("a quote of " + move, () -> graph.value(2));
        }
        graph.set(1, 0.125);
        check.same("a quote of 0.125", graph.value(2), 80.0);
    }

    /**
     * The payoff at the price 8 and some 1/1024: a path of one step upwards from 0 ends there, and
     * its mean and rest are itself.
     */
    private static double payoff(int kind, double strike, double units) {
        QuoteGraph graph = Graphs.largeAndSmall();
        graph.quote(8);
        int move = graph.blend(5, 4, 1, units);
        int zero = graph.quote(0);
        int o = graph.option(zero, move, kind, strike, 1);
        graph.terms(o, -1, 13, false, -1);
        graph.engine(o, 1, 0);
        return graph.value(o);
    }

    /** The mean of the payoffs at 72 and 88 and some 1/1024 by a lattice or a net. */
    private static double mean(int kind, double strike, double units, int engine) {
        QuoteGraph graph = Graphs.largeAndSmall();
        graph.quote(80);
        int spot = graph.blend(5, 4, 1, units);
        int o = graph.option(spot, graph.quote(8), kind, strike, 1);
        graph.engine(o, engine, engine / 2);
        return graph.value(o);
    }

    private static void ofACall(Check check) {
        check.holds("Terms", "0 CALL the greater of x - STRIKE and 0");
        check.same("below the strike", payoff(0, 8, -1), 0.0);
        check.same("at the strike", payoff(0, 8, 0), 0.0);
        check.same("above the strike", payoff(0, 8, 1), Graphs.UNIT);
        check.same("far below", payoff(0, 100000, 0), 0.0);
        check.same("far above", payoff(0, -100000, 0), 100008.0);
        for (int engine = 0; engine <= 2; engine += 2) {
            check.same("88 of 88", mean(0, 88, 0, engine), 0.0);
            check.same("88 and 2/1024 of 88", mean(0, 88, 2, engine), Graphs.UNIT);
            check.same("72 and 88 of 72", mean(0, 72, 0, engine), 8.0);
        }
    }

    private static void ofAPut(Check check) {
        check.holds("Terms", "1 PUT the greater of STRIKE - x and 0");
        check.same("below the strike", payoff(1, 8, -1), Graphs.UNIT);
        check.same("at the strike", payoff(1, 8, 0), 0.0);
        check.same("above the strike", payoff(1, 8, 1), 0.0);
        check.same("far below", payoff(1, 100000, 0), 99992.0);
        check.same("far above", payoff(1, -100000, 0), 0.0);
        for (int engine = 0; engine <= 2; engine += 2) {
            check.same("72 of 72", mean(1, 72, 0, engine), 0.0);
            check.same("72 less 2/1024 of 72", mean(1, 72, -2, engine), Graphs.UNIT);
            check.same("72 and 88 of 88", mean(1, 88, 0, engine), 8.0);
        }
    }

    private static void ofADigital(Check check) {
        check.holds("Terms", "2 DIGITAL 100 if x is not below STRIKE, else 0");
        check.same("below the strike", payoff(2, 8, -1), 0.0);
        check.same("at the strike", payoff(2, 8, 0), 100.0);
        check.same("above the strike", payoff(2, 8, 1), 100.0);
        for (int engine = 0; engine <= 2; engine += 2) {
            check.same("88 is 88", mean(2, 88, 0, engine), 50.0);
            check.same("88 less 1/1024 is below", mean(2, 88, -1, engine), 0.0);
            check.same("72 is 72", mean(2, 72, 0, engine), 100.0);
            check.same("72 less 1/1024 is below", mean(2, 72, -1, engine), 50.0);
        }
    }

    private static void ofAForward(Check check) {
        check.holds("Terms", "3 FORWARD x - STRIKE.");
        check.same("below the strike", payoff(3, 8, -1), -Graphs.UNIT);
        check.same("at the strike", payoff(3, 8, 0), 0.0);
        check.same("above the strike", payoff(3, 8, 1), Graphs.UNIT);
        check.same("far below", payoff(3, 100000, 0), -99992.0);
        check.same("far above", payoff(3, -100000, 0), 100008.0);
        for (int engine = 0; engine <= 2; engine += 2) {
            check.same("72 and 88 of 90", mean(3, 90, 0, engine), -10.0);
        }
    }

    /** Strike 0 or 100, so that every kind has something to lose at 88. */
    private static double knocked(int kind, double units, int engine) {
        QuoteGraph graph = Graphs.largeAndSmall();
        graph.quote(80);
        int spot = graph.blend(5, 4, 1, units);
        int knock = graph.quote(88);
        int o = graph.option(spot, graph.quote(8), kind, kind == 1 || kind == 3 ? 100 : 0, 1);
        graph.terms(o, -1, engine == 1 ? 13 : 8, false, knock);
        graph.engine(o, engine, engine / 2);
        return graph.value(o);
    }

    private static void isNothingAtTheKnock(Check check) {
        check.holds("Terms", "If there is a knock and x is k or more, it's 0 instead.");
        // Of the prices 72 and 88 the lattice and the net take the mean, the path ends at 88.
        double[] mean = {36, 14, 50, -14};
        double[] below = {80 - Graphs.UNIT, 20 + Graphs.UNIT, 100, -20 - Graphs.UNIT};
        double[] pathBelow = {88 - Graphs.UNIT, 12 + Graphs.UNIT, 100, -12 - Graphs.UNIT};
        for (int kind = 0; kind <= 3; kind++) {
            for (int engine = 0; engine <= 2; engine += 2) {
                String call = "kind " + kind + " by " + engine;
                check.same(call + " at 88", knocked(kind, 0, engine), mean[kind]);
                check.same(call + " below 88", knocked(kind, -1, engine), below[kind]);
            }
            check.same("kind " + kind + " by a path at 88", knocked(kind, 0, 1), 0.0);
            check.same("kind " + kind + " by a path below 88", knocked(kind, -1, 1),
                    pathBelow[kind]);
        }
    }

    private static void isNothingAboveTheKnock(Check check) {
        check.holds("Terms", "If there is a knock and x is k or more, it's 0 instead.");
        // 1/1024 more at 72 makes the mean 1/2048 more or less, and that is rounded up.
        double[] mean = {36 + Graphs.UNIT, 14, 50, -14 + Graphs.UNIT};
        for (int kind = 0; kind <= 3; kind++) {
            for (int engine = 0; engine <= 2; engine += 2) {
                check.same("kind " + kind + " above 88 by " + engine,
                        knocked(kind, 1, engine), mean[kind]);
            }
            check.same("kind " + kind + " by a path above 88", knocked(kind, 1, 1), 0.0);
        }
    }
}
