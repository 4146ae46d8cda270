/** Promise 9: value. */
public final class ValueTest {
    public static void main(String[] args) {
        Check check = new Check();
        worksOutOnceWhatIsAsked(check);
        worksOutAgainWhatIsStale(check);
        keepsWhatWentWell(check);
        asksThePartsInOrder(check);
        asksThePartsBeforeTheEngine(check);
        goesAsDeepAsThereAreNodes(check);
        refusesBadOnes(check);
        check.end();
    }

    private static void worksOutOnceWhatIsAsked(Check check) {
        QuoteGraph graph = Check.spotAndMove();
        int low = graph.blend(0, 1, 1, 1);
        int top = graph.greater(low, low);
        int other = graph.blend(0, 1, 1, -1);
        check.same("quote", graph.value(0), 80.0);
        check.same("nothing worked out by a quote", graph.count(2), 0);
        check.same("top", graph.value(top), 88.0);
        check.same("top again", graph.value(top), 88.0);
        check.same("low", graph.value(low), 88.0);
        check.same("low was worked out", graph.node(low, 5), 1);
        check.same("top was worked out", graph.node(top, 5), 1);
        check.same("other was not", graph.node(other, 5), 0);
        check.same("count(2)", graph.count(2), 2);
    }

    private static void worksOutAgainWhatIsStale(Check check) {
        QuoteGraph graph = Check.spotAndMove();
        int left = graph.blend(0, 0, 1, 0);
        int right = graph.blend(1, 1, 1, 0);
        int top = graph.blend(left, right, 1, 1);
        check.same("top", graph.value(top), 88.0);
        graph.set(1, 9);
        check.same("top later", graph.value(top), 89.0);
        check.same("left was worked out", graph.node(left, 5), 1);
        check.same("right was worked out", graph.node(right, 5), 2);
        check.same("top was worked out", graph.node(top, 5), 2);
    }

    private static void keepsWhatWentWell(Check check) {
        QuoteGraph graph = new QuoteGraph();
        graph.quote(100000);
        int fine = graph.blend(0, 0, 1, 1);
        int large = graph.blend(0, 0, 16, 16);
        int unasked = graph.blend(0, 0, 2, 1);
        int low = graph.greater(fine, large);
        int top = graph.greater(low, unasked);
        check.arithmetic("value(top)", () -> graph.value(top));
        int[] valid = {1, 1, 0, 0, 0, 0};
        for (int n = 0; n < valid.length; n++) {
            check.same("valid " + n, graph.node(n, 1), valid[n]);
        }
        check.same("count(2)", graph.count(2), 1);
        check.same("count(3)", graph.count(3), 1);
        graph.set(0, 10);
        check.same("value(top) later", graph.value(top), 320.0);
        check.same("count(3) later", graph.count(3), 1);
    }

    private static void asksThePartsInOrder(Check check) {
        QuoteGraph graph = new QuoteGraph();
        graph.quote(100000);
        int large = graph.blend(0, 0, 16, 16);
        int[] parts = new int[4];
        for (int i = 0; i < 4; i++) {
            parts[i] = graph.blend(0, 0, 0.125, 0);
        }
        int o = graph.option(parts[0], parts[1], 0, 0, 1);
        graph.terms(o, parts[2], 8, false, large);
        check.arithmetic("the knock is too large", () -> graph.value(o));
        for (int i = 0; i < 3; i++) {
            check.same("asked before the knock: " + i, graph.node(parts[i], 1), 1);
        }
        graph.set(0, 99999);
        graph.terms(o, large, 8, false, parts[3]);
        check.arithmetic("the rate is too large", () -> graph.value(o));
        check.same("the move comes before the rate", graph.node(parts[1], 1), 1);
        check.same("the knock comes behind the rate", graph.node(parts[3], 1), 0);
        int spoiled = graph.option(large, parts[3], 0, 0, 1);
        check.arithmetic("the spot is too large", () -> graph.value(spoiled));
        check.same("the move comes behind the spot", graph.node(parts[3], 1), 0);
    }

    private static void asksThePartsBeforeTheEngine(Check check) {
        QuoteGraph graph = new QuoteGraph();
        graph.quote(100000);
        int fine = graph.blend(0, 0, 1, 0);
        int large = graph.blend(0, 0, 16, 16);
        int o = graph.option(fine, fine, 0, 0, 1);
        graph.terms(o, -1, 8, true, -1);
        graph.engine(o, 1, 0);
        check.unsupported("american paths", () -> graph.value(o));
        check.same("their part is valid", graph.node(fine, 1), 1);
        graph.terms(o, large, 8, true, -1);
        check.arithmetic("american paths on a large part", () -> graph.value(o));
    }

    private static void goesAsDeepAsThereAreNodes(Check check) {
        QuoteGraph graph = new QuoteGraph();
        graph.quote(1);
        for (int n = 1; n < 15; n++) {
            graph.greater(n - 1, n - 1);
        }
        int top = graph.option(14, 14, 3, 0, 1);
        graph.terms(top, 14, 8, false, -1);
        check.same("value(top)", graph.value(top), 0.9990234375);
        check.same("count(2)", graph.count(2), 15);
        check.same("uses(top, 0)", graph.uses(top, 0), true);
        check.same("bump(top, 0, 1)", graph.bump(top, 0, 1), 0.9970703125);
        check.same("set(0, 3)", graph.set(0, 3), 15);
    }

    private static void refusesBadOnes(Check check) {
        QuoteGraph graph = Check.spotAndMove();
        for (int gone : new int[] {-1, 2, 16, Integer.MIN_VALUE, Integer.MAX_VALUE}) {
            check.bad("value(" + gone + ")", () -> graph.value(gone));
        }
        check.same("count(3) after bad ones", graph.count(3), 0);
        QuoteGraph full = Check.full();
        check.same("value(15)", full.value(15), 1.0);
        check.bad("value(16)", () -> full.value(16));
    }
}
