/** Promise 11: bump. */
public final class BumpTest {
    public static void main(String[] args) {
        Check check = new Check();
        answersTheChange(check);
        restoresWhatWasThere(check);
        makesUsersStaleThroughFrozenOnes(check);
        worksOutAgainForNothing(check);
        restoresAfterTrouble(check);
        failsAtTheFirstAsking(check);
        mayLeaveTheRangeOfQuotes(check);
        refusesBadOnes(check);
        check.end();
    }

    private static void answersTheChange(Check check) {
        QuoteGraph graph = Check.spotAndMove();
        int blend = graph.blend(0, 1, 2, -1);
        int top = graph.greater(blend, 0);
        check.same("bump(top, 0, 0.125)", graph.bump(top, 0, 0.125), 0.25);
        check.same("bump(top, 1, 8)", graph.bump(top, 1, 8), -8.0);
        check.same("bump(top, 0, -1000)", graph.bump(top, 0, -1000), -1072.0);
        check.same("bump(top, 0, 1000)", graph.bump(top, 0, 1000), 2000.0);
        check.same("bump(0, 0, 5)", graph.bump(0, 0, 5), 5.0);
        check.same("bump(0, 1, 5)", graph.bump(0, 1, 5), 0.0);
        check.same("value(0)", graph.value(0), 80.0);
        check.same("value(top)", graph.value(top), 152.0);
        check.same("count(1)", graph.count(1), 0);
        check.same("count(3)", graph.count(3), 0);
    }

    private static void restoresWhatWasThere(Check check) {
        QuoteGraph graph = Check.spotAndMove();
        int asked = graph.blend(0, 1, 1, 1);
        int valid = graph.blend(0, 1, 1, -1);
        int stale = graph.greater(asked, valid);
        graph.value(valid);
        check.same("bump", graph.bump(asked, 0, 1), 1.0);
        check.same("asked is valid", graph.node(asked, 1), 1);
        check.same("valid is valid", graph.node(valid, 1), 1);
        check.same("stale is stale", graph.node(stale, 1), 0);
        check.same("asked was worked out", graph.node(asked, 5), 2);
        check.same("valid was worked out", graph.node(valid, 5), 1);
        check.same("count(2)", graph.count(2), 3);
        check.same("value(asked)", graph.value(asked), 88.0);
        check.same("value(valid)", graph.value(valid), 72.0);
        check.same("value(stale)", graph.value(stale), 88.0);
        check.same("count(2) later", graph.count(2), 4);
        check.same("set(0, 81)", graph.set(0, 81), 3);
    }

    private static void makesUsersStaleThroughFrozenOnes(Check check) {
        QuoteGraph graph = Check.spotAndMove();
        int low = graph.blend(0, 1, 1, 1);
        int frozen = graph.greater(low, low);
        int top = graph.blend(frozen, 1, 1, 1);
        graph.value(top);
        graph.freeze(frozen, true);
        check.same("bump(top, 0, 1)", graph.bump(top, 0, 1), 0.0);
        check.same("top was worked out again", graph.node(top, 5), 2);
        check.same("frozen was not", graph.node(frozen, 5), 1);
        check.same("low was not asked", graph.node(low, 5), 1);
        check.same("frozen missed nothing", graph.node(frozen, 3), 0);
        check.same("bump(frozen, 0, 1)", graph.bump(frozen, 0, 1), 0.0);
        check.same("bump(top, 1, 1)", graph.bump(top, 1, 1), 1.0);
        check.same("bump(low, 0, 1)", graph.bump(low, 0, 1), 1.0);
        check.same("low is valid", graph.node(low, 1), 1);
    }

    private static void worksOutAgainForNothing(Check check) {
        QuoteGraph graph = Check.spotAndMove();
        int low = graph.blend(0, 1, 1, 1);
        check.same("bump(low, 0, 0)", graph.bump(low, 0, 0), 0.0);
        check.same("worked out twice", graph.node(low, 5), 2);
        check.same("bump(low, 0, -0.0)", graph.bump(low, 0, -0.0), 0.0);
        graph.quote(5);
        check.same("bump(low, 3, 1)", graph.bump(low, 3, 1), 0.0);
        check.same("not worked out by a quote that it doesn't use", graph.node(low, 5), 3);
    }

    private static void restoresAfterTrouble(Check check) {
        QuoteGraph graph = Check.spotAndMove();
        int part = graph.blend(1, 1, 1, 0);
        int o = graph.option(0, part, 3, 0, 1);
        int user = graph.greater(o, part);
        check.arithmetic("bump(user, 1, -8)", () -> graph.bump(user, 1, -8));
        check.same("value(1)", graph.value(1), 8.0);
        int[] worked = {0, 0, 2, 1, 1};
        for (int n = 0; n < worked.length; n++) {
            check.same("valid " + n, graph.node(n, 1), 1);
            check.same("worked out " + n, graph.node(n, 5), worked[n]);
        }
        check.same("value(part)", graph.value(part), 8.0);
        check.same("value(user)", graph.value(user), 80.0);
        check.same("count(2)", graph.count(2), 4);
        check.same("count(3)", graph.count(3), 1);
        check.same("bump(user, 1, -7.875)", graph.bump(user, 1, -7.875), 0.0);
    }

    private static void failsAtTheFirstAsking(Check check) {
        QuoteGraph graph = Check.spotAndMove();
        graph.set(1, -8);
        int part = graph.blend(1, 1, 1, 0);
        int o = graph.option(0, part, 3, 0, 1);
        check.arithmetic("bump(o, 1, 16)", () -> graph.bump(o, 1, 16));
        check.same("part stays valid", graph.node(part, 1), 1);
        check.same("o is stale", graph.node(o, 1), 0);
        check.same("value(1)", graph.value(1), -8.0);
        check.same("value(part)", graph.value(part), -8.0);
        check.same("count(3)", graph.count(3), 1);
        graph.terms(o, -1, 8, true, -1);
        graph.engine(o, 1, 0);
        check.unsupported("bump(o, 1, 16) of american paths", () -> graph.bump(o, 1, 16));
        check.same("count(3) later", graph.count(3), 2);
    }

    private static void mayLeaveTheRangeOfQuotes(Check check) {
        QuoteGraph graph = new QuoteGraph();
        graph.quote(100000);
        graph.quote(-100000);
        int ten = graph.blend(0, 0, 10, 0);
        int minus = graph.blend(0, 0, -10, 0);
        check.same("bump(0, 0, 1000)", graph.bump(0, 0, 1000), 1000.0);
        check.same("bump(1, 1, -1000)", graph.bump(1, 1, -1000), -1000.0);
        check.arithmetic("bump(ten, 0, 0.125)", () -> graph.bump(ten, 0, 0.125));
        check.arithmetic("bump(minus, 0, 0.125)", () -> graph.bump(minus, 0, 0.125));
        check.same("value(ten)", graph.value(ten), 1000000.0);
        QuoteGraph wide = new QuoteGraph();
        wide.quote(100);
        int up = wide.blend(0, 0, 16, 16);
        int far = wide.blend(up, up, 16, 15);
        wide.set(0, 1000);
        check.same("992000", wide.value(far), 992000.0);
        wide.set(0, 900);
        check.same("more than 1000000 apart", wide.bump(far, 0, -1000), -992000.0);
        wide.set(0, 550);
        int farther = wide.blend(up, up, 16, 16);
        check.same("y - x isn't too large", wide.bump(farther, 0, -1000), -1024000.0);
    }

    private static void refusesBadOnes(Check check) {
        QuoteGraph graph = Check.spotAndMove();
        int blend = graph.blend(0, 1, 1, 1);
        graph.option(0, 1, 0, 80, 1);
        for (int gone : new int[] {-1, 4, 16, Integer.MIN_VALUE, Integer.MAX_VALUE}) {
            check.bad("n " + gone, () -> graph.bump(gone, 0, 1));
            check.bad("q " + gone, () -> graph.bump(blend, gone, 1));
        }
        check.bad("q is a blend", () -> graph.bump(blend, 2, 1));
        check.bad("q is an option", () -> graph.bump(blend, 3, 1));
        for (double never : Check.neverNumbers()) {
            check.bad("by " + never, () -> graph.bump(blend, 0, never));
        }
        check.bad("by 1000.125", () -> graph.bump(blend, 0, 1000.125));
        check.bad("by -1000.125", () -> graph.bump(blend, 0, -1000.125));
        check.same("stale after bad ones", graph.node(blend, 1), 0);
        check.same("count(3) after bad ones", graph.count(3), 0);
    }
}
