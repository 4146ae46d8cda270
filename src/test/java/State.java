/** What can be seen of a graph without working anything out, as a text that can be compared. */
final class State {
    private State() {
    }

    /** The counts, and of each node what node tells and its value, unless it's stale. */
    static String of(QuoteGraph graph) {
        StringBuilder text = new StringBuilder("counts");
        for (int what = 0; what <= 3; what++) {
            text.append(' ').append(graph.count(what));
        }
        for (int n = 0; n < graph.count(0); n++) {
            text.append("; ").append(n).append(':');
            for (int what = 0; what <= 5; what++) {
                text.append(' ').append(graph.node(n, what));
            }
            if (graph.node(n, 1) == 1) {
                text.append(" = ").append(graph.value(n));
            }
        }
        return text.toString();
    }

    /** What stays as it is while nodes are worked out: no validity, no values but the quotes'. */
    static String beyondWork(QuoteGraph graph) {
        StringBuilder text = new StringBuilder("counts");
        text.append(' ').append(graph.count(0)).append(' ').append(graph.count(1));
        for (int n = 0; n < graph.count(0); n++) {
            text.append("; ").append(n).append(':');
            for (int what : new int[] {0, 2, 3, 4}) {
                text.append(' ').append(graph.node(n, what));
            }
            if (graph.node(n, 0) == 0) {
                text.append(" = ").append(graph.value(n));
            }
        }
        return text.toString();
    }

    /** Which nodes are valid (or quotes), a digit each. */
    static String valid(QuoteGraph graph) {
        return digits(graph, 1);
    }

    /** How often each node was worked out, a digit each. */
    static String worked(QuoteGraph graph) {
        return digits(graph, 5);
    }

    private static String digits(QuoteGraph graph, int what) {
        StringBuilder text = new StringBuilder();
        for (int n = 0; n < graph.count(0); n++) {
            text.append(graph.node(n, what));
        }
        return text.toString();
    }
}
