/** Graphs that tests begin with, and arguments that are wrong everywhere. */
final class Graphs {
    static final double UNIT = 1.0 / 1024;

    private Graphs() {
    }

    /** Numbers that no method takes, whatever its range. */
    static double[] neverNumbers() {
        return new double[] {
            Double.NaN, Double.POSITIVE_INFINITY, Double.NEGATIVE_INFINITY, Double.MAX_VALUE,
            -Double.MAX_VALUE, Double.MIN_VALUE, -Double.MIN_VALUE, 1e18, -1e18, 4294967296.0,
            0.1, 0.0625, -0.0625, 0.1875, 15.9375, Math.nextUp(0.125), Math.nextDown(0.125),
            Math.nextUp(-0.125), Math.nextDown(-0.125), Math.nextDown(16.0)
        };
    }

    /** Numbers of nodes that aren't there in a graph of so many; some would wrap in a mask. */
    static int[] goneNodes(int count) {
        return new int[] {
            count, count + 1, -1, -2, 16, 17, 31, 32, 33, 64, 65536, -16, -32,
            Integer.MAX_VALUE, Integer.MIN_VALUE
        };
    }

    static QuoteGraph empty() {
        return new QuoteGraph();
    }

    /** The quotes 80 (0) and 8 (1), on which most tests hang their nodes. */
    static QuoteGraph spotAndMove() {
        QuoteGraph graph = new QuoteGraph();
        graph.quote(80);
        graph.quote(8);
        return graph;
    }

    /** The same graph with quotes of 1 behind them, up to 15 nodes. */
    static QuoteGraph almostFull() {
        QuoteGraph graph = spotAndMove();
        for (int i = 2; i < 15; i++) {
            graph.quote(1);
        }
        return graph;
    }

    static QuoteGraph full() {
        QuoteGraph graph = almostFull();
        graph.quote(1);
        return graph;
    }

    /** An option (2) on 80 and 8, with quotes of 0 (3) and 1000 (4) for a rate and a knock. */
    static QuoteGraph withOption(int kind, double strike, int steps) {
        QuoteGraph graph = spotAndMove();
        graph.option(0, 1, kind, strike, steps);
        graph.quote(0);
        graph.quote(1000);
        return graph;
    }

    /** The quotes 100000 (0) and 0.125 (1), and blends of 1/64 (2), 1/512 (3) and 1/1024 (4). */
    static QuoteGraph largeAndSmall() {
        QuoteGraph graph = new QuoteGraph();
        graph.quote(100000);
        graph.quote(0.125);
        graph.blend(1, 1, 0.125, 0);
        graph.blend(2, 2, 0.125, 0);
        graph.blend(3, 3, 0.5, 0);
        return graph;
    }

    /** Ten nodes of every sort and in every state, listed where they are made. */
    static QuoteGraph lively() {
        QuoteGraph graph = spotAndMove();
        graph.quote(0);
        graph.blend(0, 1, 1, 1);           // 3: valid
        graph.greater(3, 0);               // 4: frozen, and has missed something
        graph.option(0, 1, 0, 80, 2);      // 5: valid
        graph.option(0, 2, 0, 80, 2);      // 6: stale, its move is 0
        graph.option(0, 1, 0, 80, 2);      // 7: stale, american on paths
        graph.blend(5, 0, 1, 1);           // 8: stale
        graph.option(0, 0, 3, 0, 1);       // 9: frozen, and has missed nothing
        graph.terms(7, -1, 8, true, -1);
        graph.engine(7, 1, 2);
        graph.value(4);
        graph.value(9);
        graph.freeze(4, true);
        graph.freeze(9, true);
        graph.set(1, 9);
        graph.value(3);
        graph.value(5);
        return graph;
    }
}
