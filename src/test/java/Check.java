/**
 * Compares answers with those that are due, prints the wrong ones with the sentence of the document
 * that they break, and ends with the verdict.
 */
final class Check {
    interface Call {
        void run();
    }

    interface Start {
        QuoteGraph make();
    }

    interface Use {
        void of(QuoteGraph graph);
    }

    private String sentence = "";
    private int wrong;
    private int compared;

    /** The answers that follow are held to these words, at this place of the document. */
    void holds(String place, String words) {
        sentence = place + ", '" + words + "': ";
    }

    void same(String call, double got, double due) {
        compared++;
        if (Double.compare(got, due) != 0) {
            tellWrong(call, String.valueOf(got), String.valueOf(due));
        }
    }

    void same(String call, int got, int due) {
        compared++;
        if (got != due) {
            tellWrong(call, String.valueOf(got), String.valueOf(due));
        }
    }

    void same(String call, boolean got, boolean due) {
        same(call, got ? 1 : 0, due ? 1 : 0);
    }

    void same(String call, String got, String due) {
        compared++;
        if (!got.equals(due)) {
            tellWrong(call, got, due);
        }
    }

    void taken(String call, Call run) {
        compared++;
        try {
            run.run();
        } catch (RuntimeException e) {
            tellWrong(call, "with " + e, "no exception");
        }
    }

    void bad(String call, Call run) {
        fails(call, IllegalArgumentException.class, run);
    }

    void badState(String call, Call run) {
        fails(call, IllegalStateException.class, run);
    }

    void arithmetic(String call, Call run) {
        fails(call, ArithmeticException.class, run);
    }

    void unsupported(String call, Call run) {
        fails(call, UnsupportedOperationException.class, run);
    }

    /** The use of a new graph is bad, and nothing that State tells of the graph changes by it. */
    void bad(String call, Start start, Use use) {
        refused(call, IllegalArgumentException.class, start, use);
    }

    void badState(String call, Start start, Use use) {
        refused(call, IllegalStateException.class, start, use);
    }

    QuoteGraph arithmetic(String call, Start start, Use use) {
        return troubled(call, ArithmeticException.class, start, use);
    }

    QuoteGraph unsupported(String call, Start start, Use use) {
        return troubled(call, UnsupportedOperationException.class, start, use);
    }

    private void refused(String call, Class<? extends RuntimeException> due, Start start, Use use) {
        QuoteGraph graph = start.make();
        String before = State.of(graph);
        fails(call, due, () -> use.of(graph));
        same("after " + call + " the graph", State.of(graph), before);
    }

    /** Trouble is counted once; beside that, nodes may have been worked out, and no more. */
    private QuoteGraph troubled(
            String call, Class<? extends RuntimeException> due, Start start, Use use) {
        QuoteGraph graph = start.make();
        String before = State.beyondWork(graph);
        int failures = graph.count(3);
        fails(call, due, () -> use.of(graph));
        same("after " + call + " the graph", State.beyondWork(graph), before);
        same("after " + call + " count(3)", graph.count(3), failures + 1);
        return graph;
    }

    private void fails(String call, Class<? extends RuntimeException> due, Call run) {
        compared++;
        String got = "nothing";
        try {
            run.run();
        } catch (RuntimeException e) {
            if (e.getClass() == due) {
                return;
            }
            got = e.toString();
        }
        tellWrong(call, "with " + got, due.getSimpleName());
    }

    boolean isWrong() {
        return wrong != 0;
    }

    void end() {
        System.out.println(compared + " answers, " + wrong + " wrong");
        if (wrong != 0) {
            System.exit(1);
        }
    }

    private void tellWrong(String call, String got, String due) {
        wrong++;
        System.out.println(sentence + call + " answered " + got + ", due is " + due);
    }
}
