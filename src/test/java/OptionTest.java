/** Promise 5: option, and the lattice that prices it at first. */
public final class OptionTest {
    public static void main(String[] args) {
        Check check = new Check();
        pricesEachKind(check);
        startsPlain(check);
        needsAMoveAboveZero(check);
        goesToItsEdges(check);
        isTooLargeByRounding(check);
        refusesBadOnes(check);
        check.end();
    }

    private static void pricesEachKind(Check check) {
        // Two steps of 8 from 80 end at 64, 80 and 96, in a half of the cases at 80.
        double[][] due = {
            {80, 4, 4, 75, 0},
            {80.125, 3.96875, 4.09375, 25, -0.125},
            {64, 16, 0, 100, 16},
            {96, 0, 16, 25, -16},
            {96.125, 0, 16.125, 0, -16.125},
        };
        for (double[] row : due) {
            for (int kind = 0; kind <= 3; kind++) {
                QuoteGraph graph = Check.spotAndMove();
                check.same("option", graph.option(0, 1, kind, row[0], 2), 2);
                check.same("kind " + kind + " at " + row[0], graph.value(2), row[1 + kind]);
            }
        }
    }

    private static void startsPlain(Check check) {
        QuoteGraph graph = Check.spotAndMove();
        int o = graph.option(0, 1, 1, 100, 1);
        check.same("sort", graph.node(o, 0), 3);
        check.same("valid", graph.node(o, 1), 0);
        check.same("frozen", graph.node(o, 2), 0);
        check.same("missed", graph.node(o, 3), 0);
        check.same("parts", graph.node(o, 4), 2);
        check.same("worked out", graph.node(o, 5), 0);
        check.same("an even chance", graph.value(o), 20.0);
        check.same("spot and move may be one", graph.value(graph.option(1, 1, 3, 0, 1)), 8.0);
        check.same("an option on an option", graph.value(graph.option(o, 1, 3, 1, 1)), 19.0);
    }

    private static void needsAMoveAboveZero(Check check) {
        QuoteGraph graph = Check.spotAndMove();
        int o = graph.option(0, 1, 3, 0, 1);
        graph.set(1, 0);
        check.arithmetic("move 0", () -> graph.value(o));
        graph.set(1, -0.125);
        check.arithmetic("move -0.125", () -> graph.value(o));
        graph.set(1, 0.125);
        check.same("move 0.125", graph.value(o), 80.0);
    }

    private static void goesToItsEdges(Check check) {
        QuoteGraph graph = Check.spotAndMove();
        check.same("20 steps", graph.value(graph.option(0, 1, 3, 30, 20)), 50.0);
        check.same("least strike", graph.value(graph.option(0, 1, 0, -100000, 1)), 100080.0);
        check.same("greatest strike", graph.value(graph.option(0, 1, 1, 100000, 1)), 99920.0);
    }

    private static void isTooLargeByRounding(Check check) {
        QuoteGraph graph = new QuoteGraph();
        graph.quote(100000);
        int spot = graph.blend(0, 0, 9, 0);
        int large = graph.option(spot, 0, 3, -100000, 1);
        // The payoffs 1100000 and 900000 are no results of ROUNDED, their mean is.
        check.same("1000000", graph.value(large), 1000000.0);
        int larger = graph.option(spot, 0, 3, -100000, 2);
        check.arithmetic("1100000 after a step back", () -> graph.value(larger));
        int above = graph.option(spot, 0, 3, -100000 + 0.125, 1);
        check.same("999999.875", graph.value(above), 999999.875);
        int million = graph.blend(0, 0, 10, 0);
        int beyond = graph.option(million, 0, 3, -0.125, 1);
        check.arithmetic("1000000.125", () -> graph.value(beyond));
    }

    private static void refusesBadOnes(Check check) {
        QuoteGraph graph = Check.spotAndMove();
        for (int gone : new int[] {-1, 2, 16, Integer.MIN_VALUE, Integer.MAX_VALUE}) {
            check.bad("spot " + gone, () -> graph.option(gone, 1, 0, 80, 2));
            check.bad("move " + gone, () -> graph.option(0, gone, 0, 80, 2));
        }
        for (int kind : new int[] {-1, 4, Integer.MIN_VALUE, Integer.MAX_VALUE}) {
            check.bad("kind " + kind, () -> graph.option(0, 1, kind, 80, 2));
        }
        for (int steps : new int[] {0, -1, 21, Integer.MIN_VALUE, Integer.MAX_VALUE}) {
            check.bad("steps " + steps, () -> graph.option(0, 1, 0, 80, steps));
        }
        for (double never : Check.neverNumbers()) {
            check.bad("strike " + never, () -> graph.option(0, 1, 0, never, 2));
        }
        check.bad("strike 100000.125", () -> graph.option(0, 1, 0, 100000.125, 2));
        check.bad("strike -100000.125", () -> graph.option(0, 1, 0, -100000.125, 2));
        check.same("count(0) after bad ones", graph.count(0), 2);
        QuoteGraph full = Check.full();
        check.badState("a 17th node", () -> full.option(0, 1, 0, 80, 2));
        check.bad("a 17th node of 0 steps", () -> full.option(0, 1, 0, 80, 0));
    }
}
