/** Promise 7: engine, and the prices of paths and nets. */
public final class EngineTest {
    public static void main(String[] args) {
        Check check = new Check();
        takesSizesInRange(check);
        refusesBadOnes(check);
        refusesFrozenOnes(check);
        tellsTheOption(check);
        drawsPaths(check);
        discountsPaths(check);
        roundsPaths(check);
        knocksPathsOut(check);
        pathsAreNotAmerican(check);
        pathsMayBeTooLarge(check);
        netHasAMiddle(check);
        netKeepsItsOutermost(check);
        netRefusesGreatChances(check);
        everyEngineNeedsAMoveAndARate(check);
        check.end();
    }

    private static QuoteGraph withOption(int kind, double strike, int steps) {
        QuoteGraph graph = Check.spotAndMove();
        graph.option(0, 1, kind, strike, steps);
        graph.quote(0);
        graph.quote(1000);
        return graph;
    }

    private static void takesSizesInRange(Check check) {
        QuoteGraph graph = withOption(3, 30, 20);
        graph.engine(2, 0, 0);
        check.same("lattice", graph.value(2), 50.0);
        for (int size = 1; size <= 20; size++) {
            graph.engine(2, 2, size);
            check.same("net " + size, graph.value(2), 50.0);
        }
        for (int size = 0; size <= 6; size++) {
            graph.engine(2, 1, size);
            graph.value(2);
            check.same("paths " + size, graph.node(2, 1), 1);
        }
    }

    private static void refusesBadOnes(Check check) {
        QuoteGraph graph = withOption(3, 30, 2);
        graph.blend(0, 1, 1, 1);
        graph.value(2);
        for (int wrong : new int[] {0, 5, 6, -1, 16, Integer.MIN_VALUE, Integer.MAX_VALUE}) {
            check.bad("option " + wrong, () -> graph.engine(wrong, 0, 0));
        }
        for (int engine : new int[] {-1, 3, Integer.MIN_VALUE, Integer.MAX_VALUE}) {
            check.bad("engine " + engine, () -> graph.engine(2, engine, 0));
            check.bad("engine " + engine, () -> graph.engine(2, engine, 1));
        }
        int[][] sizes = {{0, 1}, {0, -1}, {1, -1}, {1, 7}, {2, 0}, {2, 21}, {2, -1}};
        for (int[] row : sizes) {
            check.bad("engine " + row[0] + " " + row[1], () -> graph.engine(2, row[0], row[1]));
        }
        check.same("valid after bad ones", graph.node(2, 1), 1);
        check.same("told after bad ones", graph.count(1), 0);
    }

    private static void refusesFrozenOnes(Check check) {
        QuoteGraph graph = withOption(3, 30, 2);
        graph.value(2);
        graph.freeze(2, true);
        check.badState("frozen", () -> graph.engine(2, 0, 0));
        check.bad("frozen and a bad size", () -> graph.engine(2, 0, 1));
        check.same("missed", graph.node(2, 3), 0);
        graph.freeze(2, false);
        graph.engine(2, 1, 6);
        check.same("stale by an engine", graph.node(2, 1), 0);
    }

    private static void tellsTheOption(Check check) {
        QuoteGraph graph = withOption(3, 30, 2);
        int user = graph.greater(2, 0);
        graph.engine(2, 0, 0);
        check.same("told while stale", graph.count(1), 0);
        graph.value(user);
        graph.engine(2, 0, 0);
        check.same("told with the engine it had", graph.count(1), 2);
        check.same("its user is stale", graph.node(user, 1), 0);
    }

    private static void drawsPaths(Check check) {
        // The first draws modulo 16: 12, 4, 5, 10, 15, 13, 13, 10.
        QuoteGraph graph = withOption(3, 0, 1);
        graph.engine(2, 1, 0);
        graph.terms(2, -1, 12, false, -1);
        check.same("12 is not below 12", graph.value(2), 72.0);
        graph.terms(2, -1, 13, false, -1);
        check.same("12 is below 13", graph.value(2), 88.0);
        graph.engine(2, 1, 1);
        check.same("12, 4 by 13", graph.value(2), 88.0);
        graph.terms(2, -1, 8, false, -1);
        check.same("12, 4 by 8", graph.value(2), 80.0);
        graph.engine(2, 1, 3);
        check.same("2 of the first 8 are below 8", graph.value(2), 76.0);
        graph.set(0, 81);
        check.same("the stream begins anew", graph.value(2), 77.0);
        int two = graph.option(0, 1, 3, 0, 2);
        graph.engine(two, 1, 1);
        check.same("the paths 12, 4 and 5, 10", graph.value(two), 81.0);
        graph.engine(two, 1, 2);
        check.same("then 15, 13 and 13, 10", graph.value(two), 73.0);
    }

    private static void discountsPaths(Check check) {
        QuoteGraph graph = withOption(3, 0, 2);
        graph.terms(2, 3, 8, false, -1);
        graph.engine(2, 1, 2);
        graph.set(3, 512.875);
        check.same("72 a quarter", graph.value(2), 18.0);
        graph.set(3, 1023);
        check.same("72 / 1024, and then next to nothing", graph.value(2), 0.0);
        graph.set(3, 1024);
        check.same("nothing is left", graph.value(2), 0.0);
    }

    private static void roundsPaths(Check check) {
        QuoteGraph graph = new QuoteGraph();
        graph.quote(0.125);
        int small = graph.blend(0, 0, 0.125, 0);
        int move = graph.blend(small, small, 0.125, 0);
        int o = graph.option(0, move, 3, 0.125, 1);
        graph.engine(o, 1, 3);
        graph.terms(o, -1, 13, false, -1);
        check.same("5 up, 3 down by 1/512: 1/2048", graph.value(o), 1.0 / 1024);
        graph.terms(o, -1, 5, false, -1);
        check.same("1 up, 7 down by 1/512: -3/2048", graph.value(o), -1.0 / 1024);
        int half = graph.quote(512);
        int two = graph.option(graph.blend(move, move, 2.5, 0), move, 3, 0, 2);
        graph.engine(two, 1, 0);
        graph.terms(two, half, 8, false, -1);
        // The path 12, 4 ends where it began, at 5/1024: a half is 3/1024, and then 2/1024.
        check.same("rounded at each step", graph.value(two), 2.0 / 1024);
    }

    private static void knocksPathsOut(Check check) {
        QuoteGraph graph = withOption(3, 0, 2);
        graph.engine(2, 1, 1);
        graph.terms(2, -1, 8, false, 4);
        // The paths: 80, 72, 80 and 80, 88, 80.
        double[][] due = {{88.125, 80}, {88, 40}, {80.125, 40}, {80, 0}, {72, 0}, {64, 0}};
        for (double[] row : due) {
            graph.set(4, row[0]);
            check.same("knock " + row[0], graph.value(2), row[1]);
        }
        graph.engine(2, 1, 2);
        graph.terms(2, -1, 13, false, 4);
        // Now 80, 88, 96, twice, then 80, 72, 64 and 80, 72, 80; one that is out draws on.
        double[][] later = {{96.125, 84}, {96, 36}, {88.125, 36}, {88, 36}, {80.125, 36}, {80, 0}};
        for (double[] row : later) {
            graph.set(4, row[0]);
            check.same("knock " + row[0] + " by 13", graph.value(2), row[1]);
        }
    }

    private static void pathsAreNotAmerican(Check check) {
        QuoteGraph graph = withOption(3, 0, 2);
        graph.terms(2, 3, 8, true, -1);
        graph.engine(2, 1, 1);
        check.unsupported("american", () -> graph.value(2));
        graph.set(1, 0);
        check.unsupported("american with a move of 0", () -> graph.value(2));
        graph.set(3, -1);
        check.unsupported("american with a rate of -1", () -> graph.value(2));
        check.unsupported("american by bump", () -> graph.bump(2, 0, 1));
        check.same("count(3)", graph.count(3), 4);
        graph.terms(2, 3, 8, false, -1);
        check.arithmetic("not american", () -> graph.value(2));
    }

    private static void pathsMayBeTooLarge(Check check) {
        QuoteGraph graph = new QuoteGraph();
        graph.quote(100000);
        graph.quote(1024);
        int spot = graph.blend(0, 0, 9, 0);
        int o = graph.option(spot, 0, 3, -99999.875, 1);
        graph.terms(o, 1, 13, false, -1);
        graph.engine(o, 1, 0);
        check.arithmetic("1099999.875, though nothing is left of it", () -> graph.value(o));
        graph.terms(o, 1, 12, false, -1);
        check.same("899999.875", graph.value(o), 0.0);
        graph.terms(o, -1, 12, false, -1);
        check.same("899999.875 without a rate", graph.value(o), 899999.875);
        graph.terms(o, -1, 8, false, -1);
        graph.engine(o, 1, 1);
        check.same("an end above 1000000 within the sum", graph.value(o), 999999.875);
    }

    private static void netHasAMiddle(Check check) {
        QuoteGraph graph = withOption(0, 80, 1);
        graph.engine(2, 2, 1);
        check.same("0, 0, 8 by 8", graph.value(2), 4.0);
        graph.terms(2, -1, 4, false, -1);
        check.same("0, 0, 8 by 4", graph.value(2), 2.0);
        int two = graph.option(0, 1, 0, 80, 2);
        graph.engine(two, 2, 1);
        graph.terms(two, -1, 4, false, -1);
        check.same("0, 2, 8 by 4", graph.value(two), 3.0);
        graph.engine(two, 2, 2);
        check.same("0, 0, 2, 8, 16 by 4", graph.value(two), 3.0);
        graph.set(3, 512);
        graph.terms(two, 3, 4, false, -1);
        check.same("0, 0, 1, 4, 16 by 4 and a half", graph.value(two), 0.75);
        graph.terms(two, 3, 4, true, -1);
        check.same("0, 0, 1, 8, 16 by 4 and a half", graph.value(two), 1.25);
    }

    private static void netKeepsItsOutermost(Check check) {
        QuoteGraph graph = withOption(3, 0, 3);
        graph.engine(2, 2, 1);
        graph.set(3, 1024);
        graph.terms(2, 3, 8, false, -1);
        check.same("nothing is left in the middle", graph.value(2), 0.0);
        graph.set(3, 512);
        // 72, 80, 88: 40, then (72 + 88) / 2 / 2 for ever.
        check.same("the outermost stay", graph.value(2), 40.0);
        graph.terms(2, 3, 8, false, 4);
        graph.set(4, 88);
        check.same("the uppermost is out", graph.value(2), 18.0);
        graph.set(4, 80);
        check.same("the middle is out", graph.value(2), 0.0);
        graph.terms(2, 3, 8, true, 4);
        check.same("the middle is out, so not used", graph.value(2), 0.0);
        graph.set(4, 88);
        check.same("used in the middle", graph.value(2), 80.0);
    }

    private static void netRefusesGreatChances(Check check) {
        QuoteGraph graph = withOption(0, 80, 1);
        graph.engine(2, 2, 1);
        for (int chance = 1; chance <= 15; chance++) {
            graph.terms(2, -1, chance, false, -1);
            if (chance > 8) {
                check.arithmetic("net by " + chance, () -> graph.value(2));
            } else {
                check.same("net by " + chance, graph.value(2), chance / 2.0);
            }
        }
        graph.engine(2, 0, 0);
        check.same("lattice by 15", graph.value(2), 7.5);
    }

    private static void everyEngineNeedsAMoveAndARate(Check check) {
        QuoteGraph graph = withOption(3, 0, 2);
        graph.terms(2, 3, 8, false, -1);
        for (int engine = 0; engine <= 2; engine++) {
            graph.engine(2, engine, engine);
            graph.set(1, 0);
            check.arithmetic("move 0 by " + engine, () -> graph.value(2));
            graph.set(1, 8);
            for (double rate : new double[] {-0.125, 1025}) {
                graph.set(3, rate);
                check.arithmetic("rate " + rate + " by " + engine, () -> graph.value(2));
            }
            graph.set(3, 1024.875);
            check.same("rate 1024.875 by " + engine, graph.value(2), 0.0);
        }
    }
}
