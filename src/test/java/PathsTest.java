/** "Terms", on paths; the first draws modulo 16 are 12, 4, 5, 10, 15, 13, 13, 10. */
public final class PathsTest {
    public static void main(String[] args) {
        Check check = new Check();
        haveSizes0To6(check);
        areNotAmerican(check);
        areNotAmericanBeforeAllElse(check);
        drawUpBelowTheChance(check);
        drawModulo2To31(check);
        drawOneStreamForAllPaths(check);
        goUpOrDownByTheMove(check);
        areOutAtTheKnock(check);
        areOutAtTheSpotToo(check);
        areOutForGood(check);
        haveARoundedMean(check);
        areDiscountedStepByStep(check);
        check.end();
    }

    private static void haveSizes0To6(Check check) {
        check.holds("Terms", "PATHS (SIZE 0 .. 6, 2^SIZE of them)");
        // So many of the first 1, 2, 4 .. 64 draws are below 8.
        double[] ups = {0, 1, 2, 2, 5, 11, 23};
        for (int size = 0; size <= 6; size++) {
            QuoteGraph graph = Graphs.withOption(2, 80, 1);
            graph.engine(2, 1, size);
            double due = 100.0 * ups[size] / (1 << size);
            check.same("paths of size " + size, graph.value(2), due);
        }
    }

    private static void areNotAmerican(Check check) {
        check.holds("Terms", "AMERICAN: UnsupportedOperationException");
        for (int size = 0; size <= 6; size++) {
            QuoteGraph graph = Graphs.withOption(0, 80, 2);
            graph.terms(2, -1, 8, true, -1);
            graph.engine(2, 1, size);
            check.unsupported("size " + size, () -> graph.value(2));
        }
        QuoteGraph graph = Graphs.withOption(0, 80, 2);
        graph.engine(2, 1, 0);
        graph.terms(2, -1, 8, true, -1);
        check.unsupported("american after it got paths", () -> graph.value(2));
        graph.engine(2, 0, 0);
        check.same("a lattice takes it", graph.value(2), 4.0);
        graph.engine(2, 2, 1);
        check.same("a net takes it", graph.value(2), 4.0);
        graph.engine(2, 1, 0);
        check.unsupported("paths again", () -> graph.value(2));
        graph.terms(2, -1, 8, false, -1);
        check.same("no longer american", graph.value(2), 0.0);
    }

    private static void areNotAmericanBeforeAllElse(Check check) {
        check.holds("Terms", "AMERICAN: UnsupportedOperationException, before all else is looked"
                + " at.");
        double[][] others = {{0, 0}, {-8, 0}, {8, -1}, {8, 1025}, {0, -1}};
        for (double[] row : others) {
            QuoteGraph graph = Graphs.withOption(0, 80, 2);
            graph.terms(2, 3, 15, true, 4);
            graph.engine(2, 1, 0);
            graph.set(1, row[0]);
            graph.set(3, row[1]);
            String call = "move " + row[0] + ", rate " + row[1];
            check.unsupported(call, () -> graph.value(2));
            check.unsupported(call + " by bump", () -> graph.bump(2, 0, 1));
            graph.terms(2, 3, 15, false, 4);
            check.arithmetic(call + ", not american", () -> graph.value(2));
        }
    }

    private static void drawUpBelowTheChance(Check check) {
        check.holds("Terms", "the draw is UP if (z / 65536) modulo 16 is below CHANCE.");
        QuoteGraph graph = Graphs.withOption(3, 0, 1);
        graph.engine(2, 1, 0);
        for (int chance = 1; chance <= 15; chance++) {
            graph.terms(2, -1, chance, false, -1);
            check.same("12 by " + chance, graph.value(2), chance <= 12 ? 72.0 : 88.0);
        }
        graph.engine(2, 1, 6);
        double[] due = {
            73, 73.5, 74.25, 74.75, 75.5, 76.75, 77.5, 77.75, 78.5, 80.25, 81.25, 82, 83.5, 85, 86
        };
        for (int chance = 1; chance <= 15; chance++) {
            graph.terms(2, -1, chance, false, -1);
            check.same("64 draws by " + chance, graph.value(2), due[chance - 1]);
        }
    }

    /** All 1280 draws of the longest and most paths: z wraps in almost every one. */
    private static void drawModulo2To31(Check check) {
        check.holds("Terms",
                "each draw: z becomes (z * 1103515245 + 12345) modulo 2^31");
        double[] due = {
            -59, -39.75, -22, -2.75, 17.75, 36, 55.5, 76.5, 96.25, 117, 140, 158.75, 180.5,
            199.75, 219.25
        };
        QuoteGraph graph = Graphs.withOption(3, 0, 20);
        graph.engine(2, 1, 6);
        for (int chance = 1; chance <= 15; chance++) {
            graph.terms(2, -1, chance, false, -1);
            check.same("1280 draws by " + chance, graph.value(2), due[chance - 1]);
        }
    }

    private static void drawOneStreamForAllPaths(Check check) {
        check.holds("Terms", "A stream of z, at first 12345");
        QuoteGraph graph = Graphs.withOption(3, 0, 2);
        graph.engine(2, 1, 1);
        check.same("the paths 12, 4 and 5, 10", graph.value(2), 80.0);
        graph.engine(2, 1, 2);
        check.same("then 15, 13 and 13, 10", graph.value(2), 72.0);
        graph.set(0, 81);
        check.same("the stream begins anew", graph.value(2), 73.0);
        int other = graph.option(0, 1, 3, 0, 2);
        graph.engine(other, 1, 2);
        check.same("for another option too", graph.value(other), 73.0);
    }

    private static void goUpOrDownByTheMove(Check check) {
        check.holds("Terms", "Each path goes from s, by STEPS draws, u up or down");
        double[] due = {72, 80, 88, 80, 72, 64, 56, 48};
        for (int steps = 1; steps <= 8; steps++) {
            QuoteGraph graph = Graphs.withOption(3, 0, steps);
            graph.engine(2, 1, 0);
            check.same(steps + " steps", graph.value(2), due[steps - 1]);
        }
    }

    private static void areOutAtTheKnock(Check check) {
        check.holds("Terms", "it is OUT if there's a knock and its price is ever k or more");
        QuoteGraph graph = Graphs.withOption(3, 0, 2);
        graph.engine(2, 1, 1);
        graph.terms(2, -1, 8, false, 4);
        // The paths: 80, 72, 80 and 80, 88, 80.
        double[][] due = {{88.125, 80}, {88, 40}, {87.875, 40}, {80.125, 40}};
        for (double[] row : due) {
            graph.set(4, row[0]);
            check.same("knock " + row[0], graph.value(2), row[1]);
        }
        graph.engine(2, 1, 2);
        graph.terms(2, -1, 13, false, 4);
        // Now 80, 88, 96, twice, then 80, 72, 64 and 80, 72, 80.
        double[][] later = {{96.125, 84}, {96, 36}, {88.125, 36}, {88, 36}, {80.125, 36}};
        for (double[] row : later) {
            graph.set(4, row[0]);
            check.same("knock " + row[0] + " by 13", graph.value(2), row[1]);
        }
    }

    private static void areOutAtTheSpotToo(Check check) {
        check.holds("Terms", "at s too.");
        QuoteGraph graph = Graphs.largeAndSmall();
        graph.quote(80);
        int o = graph.option(5, graph.quote(8), 3, 0, 1);
        graph.engine(o, 1, 0);
        graph.terms(o, -1, 8, false, 5);
        check.same("a knock at the spot", graph.value(o), 0.0);
        int above = graph.blend(5, 4, 1, 1);
        graph.terms(o, -1, 8, false, above);
        check.same("a knock 1/1024 above the spot", graph.value(o), 72.0);
        int below = graph.blend(5, 4, 1, -1);
        graph.terms(o, -1, 8, false, below);
        check.same("a knock 1/1024 below the spot", graph.value(o), 0.0);
    }

    /** The path 80, 72, 80, 88, 80: one that is out draws on for the next, and ends with 0. */
    private static void areOutForGood(Check check) {
        check.holds("Terms", "Its end is PAYOFF of its last price, 0 if OUT.");
        for (int kind = 0; kind <= 3; kind++) {
            QuoteGraph graph = Graphs.withOption(kind, kind == 1 || kind == 3 ? 100 : 0, 4);
            graph.engine(2, 1, 0);
            graph.terms(2, -1, 8, false, 4);
            double[] due = {80, 20, 100, -20};
            check.same("kind " + kind, graph.value(2), due[kind]);
            graph.set(4, 88);
            check.same("kind " + kind + ", out on the way", graph.value(2), 0.0);
            graph.set(4, 88.125);
            check.same("kind " + kind + ", not quite out", graph.value(2), due[kind]);
        }
        QuoteGraph graph = Graphs.withOption(3, 0, 2);
        graph.engine(2, 1, 2);
        graph.terms(2, -1, 8, false, 4);
        graph.set(4, 88);
        // 80, 72, 80; out; 80, 72, 64; 80, 72, 64.
        check.same("the paths behind one that is out", graph.value(2), 52.0);
    }

    private static void haveARoundedMean(Check check) {
        check.holds("Terms", "Y is ROUNDED(the sum of the ends / 2^SIZE)");
        QuoteGraph graph = Graphs.largeAndSmall();
        int o = graph.option(1, 3, 3, 0.125, 1);
        graph.engine(o, 1, 3);
        graph.terms(o, -1, 13, false, -1);
        check.same("5 up, 3 down by 1/512: 1/2048", graph.value(o), Graphs.UNIT);
        graph.terms(o, -1, 5, false, -1);
        check.same("1 up, 7 down by 1/512: -3/2048", graph.value(o), -Graphs.UNIT);
        graph.engine(o, 1, 6);
        int small = graph.option(1, 4, 3, 0.125, 1);
        graph.engine(small, 1, 6);
        graph.terms(small, -1, 10, false, -1);
        // 33 up and 31 down: a 32nd of 1/1024.
        check.same("the sum is rounded, not its terms", graph.value(small), 0.0);
    }

    private static void areDiscountedStepByStep(Check check) {
        check.holds("Terms", "and then, STEPS times, Y becomes ROUNDED(D * Y)");
        QuoteGraph graph = Graphs.withOption(3, 0, 2);
        graph.terms(2, 3, 8, false, -1);
        graph.engine(2, 1, 2);
        graph.set(3, 512.875);
        check.same("72 a quarter", graph.value(2), 18.0);
        graph.set(3, 1023);
        check.same("72 / 1024, and then next to nothing", graph.value(2), 0.0);
        graph.set(3, 1024);
        check.same("nothing is left", graph.value(2), 0.0);
        QuoteGraph small = Graphs.largeAndSmall();
        int half = small.quote(512);
        int two = small.option(small.blend(4, 4, 5, 0), 4, 3, 0, 2);
        small.engine(two, 1, 0);
        small.terms(two, half, 8, false, -1);
        // The path 12, 4 ends where it began, at 5/1024: a half is 3/1024, and then 2/1024.
        check.same("rounded at each step", small.value(two), 2 * Graphs.UNIT);
        int one = small.option(small.blend(4, 4, 5, 0), 4, 3, -0.125, 1);
        small.engine(one, 1, 0);
        small.terms(one, half, 8, false, -1);
        check.same("132/1024 by a half, once", small.value(one), 66 * Graphs.UNIT);
    }
}
