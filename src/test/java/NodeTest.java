/** Promise 13: node. */
public final class NodeTest {
    public static void main(String[] args) {
        Check check = new Check();
        tellsOfEachSort(check);
        tellsOfAFrozenOne(check);
        countsWhatWentWell(check);
        refusesBadOnes(check);
        check.end();
    }

    private static void tellsOfEachSort(Check check) {
        QuoteGraph graph = Check.spotAndMove();
        graph.blend(0, 1, 1, 1);
        graph.greater(0, 1);
        graph.option(0, 1, 0, 80, 1);
        graph.value(3);
        int[][] due = {
            {0, 1, 0, 0, 0, 0},
            {0, 1, 0, 0, 0, 0},
            {1, 0, 0, 0, 2, 0},
            {2, 1, 0, 0, 2, 1},
            {3, 0, 0, 0, 2, 0},
        };
        for (int n = 0; n < due.length; n++) {
            for (int what = 0; what <= 5; what++) {
                check.same("node(" + n + ", " + what + ")", graph.node(n, what), due[n][what]);
            }
        }
    }

    private static void tellsOfAFrozenOne(Check check) {
        QuoteGraph graph = Check.spotAndMove();
        graph.blend(0, 1, 1, 1);
        graph.value(2);
        graph.freeze(2, true);
        check.same("missed nothing", graph.node(2, 3), 0);
        graph.set(1, 9);
        int[] due = {1, 1, 1, 1, 2, 1};
        for (int what = 0; what <= 5; what++) {
            check.same("node(2, " + what + ")", graph.node(2, what), due[what]);
        }
    }

    private static void countsWhatWentWell(Check check) {
        QuoteGraph graph = Check.spotAndMove();
        graph.option(0, 1, 0, 80, 1);
        graph.set(1, 0);
        check.arithmetic("value(2)", () -> graph.value(2));
        check.same("worked out by trouble", graph.node(2, 5), 0);
        graph.set(1, 1);
        for (int times = 1; times <= 3; times++) {
            graph.set(0, 80 + times);
            graph.value(2);
            graph.value(2);
            check.same("worked out", graph.node(2, 5), times);
        }
    }

    private static void refusesBadOnes(Check check) {
        QuoteGraph graph = Check.spotAndMove();
        for (int what : new int[] {-1, 6, 7, Integer.MIN_VALUE, Integer.MAX_VALUE}) {
            check.bad("node(0, " + what + ")", () -> graph.node(0, what));
        }
        for (int gone : new int[] {-1, 2, 16, Integer.MIN_VALUE, Integer.MAX_VALUE}) {
            for (int what = -1; what <= 6; what++) {
                int asked = what;
                check.bad("node(" + gone + ", " + what + ")", () -> graph.node(gone, asked));
            }
        }
    }
}
