/** Promise 8: set. */
public final class SetTest {
    public static void main(String[] args) {
        Check check = new Check();
        setsTheValue(check);
        tellsEachNodeOnce(check);
        frozenOnesHoldTheWord(check);
        refusesBadOnes(check);
        check.end();
    }

    private static void setsTheValue(Check check) {
        QuoteGraph graph = Check.spotAndMove();
        for (double given : new double[] {100000, -100000, 0.125, 0, 99999.875}) {
            check.same("set(0, " + given + ")", graph.set(0, given), 0);
            check.same("its value", graph.value(0), given);
        }
        graph.set(0, 0);
        int user = graph.greater(0, 0);
        check.same("told while stale", graph.set(0, 1), 0);
        graph.value(user);
        check.same("the same value", graph.set(0, 1), 0);
        check.same("still valid", graph.node(user, 1), 1);
        check.same("another value", graph.set(0, 0), 1);
        graph.value(user);
        check.same("-0.0 is 0", graph.set(0, -0.0), 0);
        check.same("a quote that it doesn't use", graph.set(1, 9), 0);
        check.same("count(1)", graph.count(1), 1);
    }

    private static void tellsEachNodeOnce(Check check) {
        QuoteGraph graph = Check.spotAndMove();
        int left = graph.blend(0, 1, 1, 1);
        int right = graph.blend(0, 0, 1, 1);
        int top = graph.greater(left, right);
        int alone = graph.greater(1, 1);
        graph.value(top);
        graph.value(alone);
        check.same("set(0, 81)", graph.set(0, 81), 3);
        check.same("alone is valid", graph.node(alone, 1), 1);
        check.same("top is stale", graph.node(top, 1), 0);
        check.same("set(0, 82) with all stale", graph.set(0, 82), 0);
        graph.value(right);
        check.same("set(1, 9) with left stale", graph.set(1, 9), 1);
        check.same("set(0, 83) with right valid", graph.set(0, 83), 1);
        check.same("count(1)", graph.count(1), 5);
        check.same("value(top)", graph.value(top), 166.0);
    }

    private static void frozenOnesHoldTheWord(Check check) {
        QuoteGraph graph = Check.spotAndMove();
        int low = graph.blend(0, 1, 1, 1);
        int middle = graph.greater(low, low);
        int top = graph.greater(middle, middle);
        graph.value(top);
        graph.freeze(middle, true);
        check.same("set(0, 81)", graph.set(0, 81), 1);
        check.same("low is stale", graph.node(low, 1), 0);
        check.same("middle missed it", graph.node(middle, 3), 1);
        check.same("top is valid", graph.node(top, 1), 1);
        check.same("value(top)", graph.value(top), 88.0);
        check.same("value(low)", graph.value(low), 89.0);
        check.same("count(1)", graph.count(1), 1);
    }

    private static void refusesBadOnes(Check check) {
        QuoteGraph graph = Check.spotAndMove();
        int blend = graph.blend(0, 1, 1, 1);
        graph.option(0, 1, 0, 80, 1);
        graph.value(blend);
        for (int wrong : new int[] {2, 3, 4, -1, 16, Integer.MIN_VALUE, Integer.MAX_VALUE}) {
            check.bad("set(" + wrong + ", 1)", () -> graph.set(wrong, 1));
        }
        for (double never : Check.neverNumbers()) {
            check.bad("set(0, " + never + ")", () -> graph.set(0, never));
        }
        check.bad("set(0, 100000.125)", () -> graph.set(0, 100000.125));
        check.bad("set(0, -100000.125)", () -> graph.set(0, -100000.125));
        check.same("value(0) after bad ones", graph.value(0), 80.0);
        check.same("valid after bad ones", graph.node(blend, 1), 1);
        check.same("count(1) after bad ones", graph.count(1), 0);
    }
}
