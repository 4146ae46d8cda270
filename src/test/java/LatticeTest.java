/** "Terms", on the lattice. */
public final class LatticeTest {
    public static void main(String[] args) {
        Check check = new Check();
        hasItsPrices(check);
        endsAtTheOuterPrices(check);
        goesBackToTheStart(check);
        check.end();
    }

    private static void hasItsPrices(Check check) {
        check.holds("Terms", "LATTICE: prices s + (2 j - t) u after t steps with j up");
        // Two steps of 8 from 80 end at 64, 80 and 96, in a half of the cases at 80.
        double[][] due = {
            {80, 4, 4, 75, 0},
            {80.125, 3.96875, 4.09375, 25, -0.125},
            {64, 16, 0, 100, 16},
            {63.875, 16.125, 0, 100, 16.125},
            {64.125, 15.90625, 0.03125, 75, 15.875},
            {96, 0, 16, 25, -16},
            {96.125, 0, 16.125, 0, -16.125},
        };
        for (double[] row : due) {
            for (int kind = 0; kind <= 3; kind++) {
                QuoteGraph graph = Graphs.spotAndMove();
                graph.option(0, 1, kind, row[0], 2);
                check.same("kind " + kind + " at " + row[0], graph.value(2), row[1 + kind]);
            }
        }
    }

    private static void endsAtTheOuterPrices(Check check) {
        check.holds("Terms", "from the PAYOFFS after all STEPS back to t = 0");
        QuoteGraph graph = Graphs.spotAndMove();
        // One of 2^20 ways leads to 240; rounding holds it at 1/1024 on the way.
        check.same("20 up", graph.value(graph.option(0, 1, 2, 240, 20)), Graphs.UNIT);
        check.same("more than 20 up", graph.value(graph.option(0, 1, 2, 240.125, 20)), 0.0);
        check.same("20 down", graph.value(graph.option(0, 1, 2, -80, 20)), 100.0);
        check.same("1 up", graph.value(graph.option(0, 1, 2, 88, 1)), 50.0);
        check.same("more than 1 up", graph.value(graph.option(0, 1, 2, 88.125, 1)), 0.0);
        check.same("1 down", graph.value(graph.option(0, 1, 2, 72, 1)), 100.0);
        check.same("less than 1 down", graph.value(graph.option(0, 1, 2, 72.125, 1)), 50.0);
    }

    private static void goesBackToTheStart(Check check) {
        check.holds("Terms", "at which the value is the option's.");
        double[] due = {4, 4, 6, 6};
        for (int steps = 1; steps <= 4; steps++) {
            QuoteGraph graph = Graphs.spotAndMove();
            graph.option(0, 1, 0, 80, steps);
            check.same(steps + " steps", graph.value(2), due[steps - 1]);
        }
        QuoteGraph graph = Graphs.withOption(3, 0, 20);
        check.same("20 steps", graph.value(2), 80.0);
        graph.terms(2, -1, 15, false, -1);
        check.same("20 steps by 15", graph.value(2), 220.0);
        graph.terms(2, -1, 1, false, -1);
        check.same("20 steps by 1", graph.value(2), -60.0);
    }
}
