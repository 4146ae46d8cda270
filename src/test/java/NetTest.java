/** "Terms", on the net. */
public final class NetTest {
    public static void main(String[] args) {
        Check check = new Check();
        hasSizes1To20(check);
        refusesChancesAbove8(check);
        hasItsPrices(check);
        stepsAsOftenAsItHasSteps(check);
        stepsFromTheValuesBefore(check);
        roundsEachStep(check);
        isKnockedOutWithin(check);
        isUsedEarlyWithin(check);
        keepsItsOutermost(check);
        answersItsMiddle(check);
        check.end();
    }

    private static void hasSizes1To20(Check check) {
        check.holds("Terms", "NET (SIZE 1 .. 20)");
        QuoteGraph graph = Graphs.withOption(0, 80, 20);
        graph.engine(2, 2, 1);
        check.same("size 1", graph.value(2), 4.0);
        graph.engine(2, 2, 2);
        check.same("size 2", graph.value(2), 7.9921875);
        graph.engine(2, 2, 20);
        check.same("size 20", graph.value(2), 14.0966796875);
        check.bad("size 0", () -> graph.engine(2, 2, 0));
        check.bad("size 21", () -> graph.engine(2, 2, 21));
    }

    private static void refusesChancesAbove8(Check check) {
        check.holds("Terms", "CHANCE above 8: ArithmeticException.");
        QuoteGraph graph = Graphs.withOption(0, 80, 1);
        graph.engine(2, 2, 1);
        for (int chance = 1; chance <= 15; chance++) {
            graph.terms(2, -1, chance, false, -1);
            if (chance <= 8) {
                check.same("net by " + chance, graph.value(2), chance / 2.0);
            } else {
                check.arithmetic("net by " + chance, () -> graph.value(2));
            }
        }
        graph.engine(2, 0, 0);
        check.same("a lattice by 15", graph.value(2), 7.5);
        graph.engine(2, 1, 0);
        check.same("paths by 15", graph.value(2), 8.0);
    }

    private static void hasItsPrices(Check check) {
        check.holds("Terms", "Prices s + i u for i = -SIZE .. SIZE, with the PAYOFFS at first");
        QuoteGraph graph = Graphs.withOption(2, 88, 1);
        graph.engine(2, 2, 1);
        check.same("one up", graph.value(2), 50.0);
        int above = graph.option(0, 1, 2, 88.125, 1);
        graph.engine(above, 2, 1);
        check.same("more than one up", graph.value(above), 0.0);
        graph.engine(above, 2, 2);
        check.same("two up are too far for one step", graph.value(above), 0.0);
        int two = graph.option(0, 1, 2, 88.125, 2);
        graph.engine(two, 2, 2);
        check.same("two up in two steps", graph.value(two), 25.0);
        graph.engine(two, 2, 1);
        check.same("two up are not in a net of size 1", graph.value(two), 0.0);
        int far = graph.option(0, 1, 2, 240, 20);
        graph.engine(far, 2, 20);
        check.same("20 up in 20 steps", graph.value(far), Graphs.UNIT);
        graph.engine(far, 2, 19);
        check.same("20 up are not in a net of size 19", graph.value(far), 0.0);
        int low = graph.option(0, 1, 1, -79.875, 20);
        graph.engine(low, 2, 20);
        check.same("20 down in 20 steps", graph.value(low), Graphs.UNIT);
        graph.engine(low, 2, 19);
        check.same("20 down are not in a net of size 19", graph.value(low), 0.0);
    }

    private static void stepsAsOftenAsItHasSteps(Check check) {
        check.holds("Terms", "STEPS times: for all i but the outermost two");
        int[] steps = {1, 2, 3, 4, 20};
        double[] due = {75, 68.75, 65.625, 63.671875, 54.1669921875};
        for (int i = 0; i < steps.length; i++) {
            QuoteGraph graph = Graphs.withOption(2, 80, steps[i]);
            graph.engine(2, 2, 3);
            graph.terms(2, -1, 4, false, -1);
            check.same(steps[i] + " steps", graph.value(2), due[i]);
        }
    }

    private static void stepsFromTheValuesBefore(Check check) {
        check.holds("Terms", "for all i but the outermost two, from the values before");
        QuoteGraph graph = Graphs.withOption(0, 80, 2);
        graph.engine(2, 2, 1);
        graph.terms(2, -1, 4, false, -1);
        check.same("0, 0, 8; then 0, 2, 8; then 3", graph.value(2), 3.0);
        graph.engine(2, 2, 2);
        check.same("0, 0, 0, 8, 16; then 0, 0, 2, 8, 16; then 3", graph.value(2), 3.0);
        int put = graph.option(0, 1, 1, 80, 2);
        graph.engine(put, 2, 2);
        graph.terms(put, -1, 4, false, -1);
        check.same("the same from the other side", graph.value(put), 3.0);
        int digital = graph.option(0, 1, 2, 80, 2);
        graph.engine(digital, 2, 2);
        check.same("0, 0, 100, 100, 100; then 0, 50, 50, 100, 100", graph.value(digital), 75.0);
    }

    private static void roundsEachStep(Check check) {
        check.holds("Terms",
                "ROUNDED(D * (v(i) + CHANCE / 16 * (v(i + 1) - 2 v(i) + v(i - 1))))");
        QuoteGraph graph = Graphs.largeAndSmall();
        int half = graph.quote(512);
        int spot = graph.blend(4, 4, 3, 0);
        int o = graph.option(spot, 4, 3, 0, 1);
        graph.engine(o, 2, 1);
        graph.terms(o, half, 8, false, -1);
        check.same("3/1024 by a half", graph.value(o), 2 * Graphs.UNIT);
        int low = graph.option(graph.blend(4, 4, -3, 0), 4, 3, 0, 1);
        graph.engine(low, 2, 1);
        graph.terms(low, half, 8, false, -1);
        check.same("-3/1024 by a half", graph.value(low), -Graphs.UNIT);
        int call = graph.option(spot, 4, 0, 0, 2);
        graph.engine(call, 2, 1);
        graph.terms(call, half, 1, false, -1);
        // In 1/1024: 2, 3, 4; 2 of the middle's half; then 2 1/8 of which a half is 1.
        check.same("rounded twice", graph.value(call), Graphs.UNIT);
    }

    private static void isKnockedOutWithin(Check check) {
        check.holds("Terms", "then as for a STEP BACK at the price");
        QuoteGraph graph = Graphs.withOption(3, 0, 1);
        graph.engine(2, 2, 1);
        graph.terms(2, -1, 8, false, 4);
        double[][] due = {{88.125, 80}, {88, 36}, {80.125, 36}, {80, 0}, {72, 0}};
        for (double[] row : due) {
            graph.set(4, row[0]);
            check.same("knock " + row[0], graph.value(2), row[1]);
        }
        int two = graph.option(0, 1, 3, 0, 2);
        graph.engine(two, 2, 2);
        graph.terms(two, -1, 8, false, 4);
        double[][] later = {{96.125, 80}, {96, 56}, {88.125, 56}, {88, 36}, {80.125, 36}, {80, 0}};
        for (double[] row : later) {
            graph.set(4, row[0]);
            check.same("knock " + row[0] + " in two steps", graph.value(two), row[1]);
        }
    }

    private static void isUsedEarlyWithin(Check check) {
        check.holds("Terms", "then as for a STEP BACK at the price");
        QuoteGraph graph = Graphs.withOption(0, 80, 2);
        graph.engine(2, 2, 2);
        graph.set(3, 512);
        graph.terms(2, 3, 4, false, -1);
        check.same("0, 0, 1, 4, 16 by 4 and a half", graph.value(2), 0.75);
        graph.terms(2, 3, 4, true, -1);
        check.same("0, 0, 1, 8, 16 by 4 and a half", graph.value(2), 1.25);
        graph.set(0, 96);
        check.same("used at once", graph.value(2), 16.0);
        graph.terms(2, 3, 4, true, 4);
        graph.set(4, 96);
        check.same("out, so not used", graph.value(2), 0.0);
    }

    private static void keepsItsOutermost(Check check) {
        check.holds("Terms", "the outermost stay.");
        QuoteGraph graph = Graphs.withOption(3, 0, 3);
        graph.engine(2, 2, 1);
        graph.terms(2, 3, 8, false, -1);
        graph.set(3, 512);
        // 72, 80, 88: 40, then (72 + 88) / 2 / 2 for ever.
        check.same("72 and 88 stay", graph.value(2), 40.0);
        graph.set(3, 1024);
        check.same("nothing is left in the middle", graph.value(2), 0.0);
        graph.set(3, 512);
        graph.terms(2, 3, 8, false, 4);
        graph.set(4, 88);
        check.same("72 and nothing stay", graph.value(2), 18.0);
        int put = graph.option(0, 1, 1, 100, 20);
        graph.engine(put, 2, 1);
        graph.terms(put, 3, 8, false, -1);
        check.same("28 and 12 stay for 20 steps", graph.value(put), 10.0);
    }

    private static void answersItsMiddle(Check check) {
        check.holds("Terms", "The value in the middle is the option's.");
        for (int size = 1; size <= 20; size++) {
            QuoteGraph graph = Graphs.withOption(3, 30, 20);
            graph.engine(2, 2, size);
            check.same("a forward of size " + size, graph.value(2), 50.0);
        }
    }
}
