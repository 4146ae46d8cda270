/** Promise 3: blend. */
public final class BlendTest {
    public static void main(String[] args) {
        Check check = new Check();
        weighsItsParts(check);
        roundsHalvesUp(check);
        isNotTooLargeAtAMillion(check);
        isTooLargeAboveAMillion(check);
        refusesBadOnes(check);
        check.end();
    }

    private static void weighsItsParts(Check check) {
        QuoteGraph graph = Check.spotAndMove();
        check.same("blend", graph.blend(0, 1, 0.5, -2), 2);
        check.same("blend of a blend", graph.blend(2, 0, 1, 0.125), 3);
        check.same("blend of one node twice", graph.blend(1, 1, 16, -16), 4);
        check.same("0.5 80 - 2 8", graph.value(2), 24.0);
        check.same("24 + 0.125 80", graph.value(3), 34.0);
        check.same("16 8 - 16 8", graph.value(4), 0.0);
        check.same("sort", graph.node(2, 0), 1);
        check.same("parts", graph.node(2, 4), 2);
        check.same("parts of one node twice", graph.node(4, 4), 2);
    }

    private static void roundsHalvesUp(Check check) {
        QuoteGraph graph = new QuoteGraph();
        graph.quote(0.125);
        graph.blend(0, 0, 0.125, 0);
        int small = graph.blend(1, 1, 0.125, 0);
        check.same("1/512", graph.value(small), 1.0 / 512);
        double[] weights = {0.125, 0.25, 0.375, 0.5, 0.75, -0.125, -0.25, -0.375, -0.5, -0.75};
        int[] rounded = {0, 1, 1, 1, 2, 0, 0, -1, -1, -1};
        for (int i = 0; i < weights.length; i++) {
            int n = graph.blend(small, small, 0, weights[i]);
            check.same("1/512 by " + weights[i], graph.value(n), rounded[i] / 1024.0);
        }
        check.same("rounds the sum, not its terms",
                graph.value(graph.blend(small, small, 0.125, 0.125)), 1.0 / 1024);
    }

    private static void isNotTooLargeAtAMillion(Check check) {
        QuoteGraph graph = new QuoteGraph();
        graph.quote(100000);
        graph.quote(-100000);
        check.same("1000000", graph.value(graph.blend(0, 0, 10, 0)), 1000000.0);
        check.same("-1000000", graph.value(graph.blend(1, 0, 10, 0)), -1000000.0);
        check.same("14 less 4", graph.value(graph.blend(0, 1, 14, 4)), 1000000.0);
    }

    private static void isTooLargeAboveAMillion(Check check) {
        QuoteGraph graph = new QuoteGraph();
        graph.quote(100000);
        graph.quote(0.125);
        int small = graph.blend(1, 1, 0.125, 0);
        int smaller = graph.blend(small, small, 0.125, 0);
        int justAbove = graph.blend(0, smaller, 10, 0.25);
        int justBelow = graph.blend(0, smaller, -10, -0.375);
        int roundedDown = graph.blend(0, smaller, 10, 0.125);
        int roundedUp = graph.blend(0, smaller, -10, -0.25);
        check.arithmetic("1000000 + 1/2048", () -> graph.value(justAbove));
        check.arithmetic("-1000000 - 3/4096", () -> graph.value(justBelow));
        check.same("1000000 + 1/4096", graph.value(roundedDown), 1000000.0);
        check.same("-1000000 - 1/2048", graph.value(roundedUp), -1000000.0);
        check.same("too large: stale", graph.node(justAbove, 1), 0);
        check.same("too large: not worked out", graph.node(justAbove, 5), 0);
    }

    private static void refusesBadOnes(Check check) {
        QuoteGraph graph = Check.spotAndMove();
        for (double never : Check.neverNumbers()) {
            check.bad("weight x " + never, () -> graph.blend(0, 1, never, 1));
            check.bad("weight y " + never, () -> graph.blend(0, 1, 1, never));
        }
        for (double beyond : new double[] {16.125, -16.125}) {
            check.bad("weight x " + beyond, () -> graph.blend(0, 1, beyond, 1));
            check.bad("weight y " + beyond, () -> graph.blend(0, 1, 1, beyond));
        }
        for (int gone : new int[] {-1, 2, 16, Integer.MIN_VALUE, Integer.MAX_VALUE}) {
            check.bad("a " + gone, () -> graph.blend(gone, 1, 1, 1));
            check.bad("b " + gone, () -> graph.blend(0, gone, 1, 1));
        }
        check.same("count(0) after bad ones", graph.count(0), 2);
        QuoteGraph full = Check.full();
        check.badState("a 17th node", () -> full.blend(0, 1, 1, 1));
        check.bad("a 17th node with a bad weight", () -> full.blend(0, 1, 1, 17));
        check.bad("a 17th node on itself", () -> full.blend(0, 16, 1, 1));
    }
}
