/** Promise 14: count. */
public final class CountTest {
    public static void main(String[] args) {
        Check check = new Check();
        countsAll(check);
        answersNoOtherCount(check);
        check.end();
    }

    private static void countsAll(Check check) {
        QuoteGraph graph = Check.spotAndMove();
        int blend = graph.blend(0, 1, 1, 1);
        int o = graph.option(blend, 1, 3, 0, 1);
        same(check, graph, 4, 0, 0, 0);
        graph.value(o);
        same(check, graph, 4, 0, 2, 0);
        graph.set(0, 90);
        same(check, graph, 4, 2, 2, 0);
        graph.bump(o, 1, 1);
        same(check, graph, 4, 2, 6, 0);
        check.arithmetic("bump(o, 1, -8)", () -> graph.bump(o, 1, -8));
        same(check, graph, 4, 2, 7, 1);
        graph.engine(o, 1, 0);
        same(check, graph, 4, 3, 7, 1);
        graph.terms(o, -1, 8, true, -1);
        same(check, graph, 4, 3, 7, 1);
        check.unsupported("value(o)", () -> graph.value(o));
        check.unsupported("bump(o, 0, 1)", () -> graph.bump(o, 0, 1));
        same(check, graph, 4, 3, 7, 3);
        check.badState("freeze(o, true)", () -> graph.freeze(o, true));
        check.bad("value(9)", () -> graph.value(9));
        check.bad("bump(o, 9, 1)", () -> graph.bump(o, 9, 1));
        check.bad("quote(0.1)", () -> graph.quote(0.1));
        same(check, graph, 4, 3, 7, 3);
        graph.freeze(blend, true);
        graph.set(0, 91);
        same(check, graph, 4, 3, 7, 3);
        graph.freeze(blend, false);
        same(check, graph, 4, 4, 7, 3);
    }

    private static void same(Check check, QuoteGraph graph, int... due) {
        for (int what = 0; what < due.length; what++) {
            check.same("count(" + what + ")", graph.count(what), due[what]);
        }
    }

    private static void answersNoOtherCount(Check check) {
        QuoteGraph graph = Check.spotAndMove();
        for (int what : new int[] {-1, 4, 5, Integer.MIN_VALUE, Integer.MAX_VALUE}) {
            check.same("count(" + what + ")", graph.count(what), -1);
        }
        check.same("count(0) of 16", Check.full().count(0), 16);
    }
}
