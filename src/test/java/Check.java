/** Compares answers with those that are due, prints the wrong ones and ends with their verdict. */
final class Check {
    interface Call {
        void run();
    }

    private int wrong;
    private int compared;

    void same(String call, double got, double due) {
        compared++;
        if (Double.compare(got, due) != 0) {
            tellWrong(call, String.valueOf(got), String.valueOf(due));
        }
    }

    void same(String call, int got, int due) {
        compared++;
        if (got != due) {
            tellWrong(call, String.valueOf(got), String.valueOf(due));
        }
    }

    void same(String call, boolean got, boolean due) {
        same(call, got ? 1 : 0, due ? 1 : 0);
    }

    void bad(String call, Call run) {
        fails(call, IllegalArgumentException.class, run);
    }

    void badState(String call, Call run) {
        fails(call, IllegalStateException.class, run);
    }

    void arithmetic(String call, Call run) {
        fails(call, ArithmeticException.class, run);
    }

    void unsupported(String call, Call run) {
        fails(call, UnsupportedOperationException.class, run);
    }

    void fails(String call, Class<? extends RuntimeException> due, Call run) {
        compared++;
        String got = "nothing";
        try {
            run.run();
        } catch (RuntimeException e) {
            if (e.getClass() == due) {
                return;
            }
            got = e.toString();
        }
        tellWrong(call, "with " + got, due.getSimpleName());
    }

    boolean isWrong() {
        return wrong != 0;
    }

    void end() {
        System.out.println(compared + " answers, " + wrong + " wrong");
        if (wrong != 0) {
            System.exit(1);
        }
    }

    private void tellWrong(String call, String got, String due) {
        wrong++;
        System.out.println(call + " answered " + got + ", due is " + due);
    }

    /** Numbers that no method takes, whatever its range. */
    static double[] neverNumbers() {
        return new double[] {
            Double.NaN, Double.POSITIVE_INFINITY, Double.NEGATIVE_INFINITY, Double.MAX_VALUE,
            -Double.MAX_VALUE, Double.MIN_VALUE, 0.1, 0.0625, -0.0625, 1e18, 0.12500000000000003
        };
    }

    /** A graph with the quotes 80 (0) and 8 (1), on which most tests hang their nodes. */
    static QuoteGraph spotAndMove() {
        QuoteGraph graph = new QuoteGraph();
        graph.quote(80);
        graph.quote(8);
        return graph;
    }

    /** The same graph with quotes of 1 behind them, up to 16 nodes. */
    static QuoteGraph full() {
        QuoteGraph graph = spotAndMove();
        for (int i = 2; i < 16; i++) {
            graph.quote(1);
        }
        return graph;
    }
}
