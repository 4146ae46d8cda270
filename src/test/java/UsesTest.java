/** Promise 12: uses. */
public final class UsesTest {
    public static void main(String[] args) {
        Check check = new Check();
        followsParts(check);
        followsPartsToLaterNodes(check);
        refusesBadOnes(check);
        check.end();
    }

    private static void followsParts(Check check) {
        QuoteGraph graph = Check.spotAndMove();
        graph.quote(1);
        graph.blend(0, 1, 0, 0);
        graph.greater(3, 3);
        graph.option(4, 2, 0, 0, 1);
        int[] used = {0, 0, 0, 0b000011, 0b001011, 0b011111};
        for (int a = 0; a < used.length; a++) {
            for (int b = 0; b < used.length; b++) {
                boolean due = (used[a] >> b & 1) == 1;
                check.same("uses(" + a + ", " + b + ")", graph.uses(a, b), due);
            }
        }
        check.same("nothing was worked out", graph.count(2), 0);
    }

    private static void followsPartsToLaterNodes(Check check) {
        QuoteGraph graph = Check.spotAndMove();
        for (int n = 2; n < 15; n++) {
            graph.option(0, 1, 0, 0, 1);
        }
        graph.quote(7);
        for (int n = 2; n < 15; n++) {
            graph.terms(n, n % 2 == 0 ? n + 1 : -1, 8, false, n % 2 == 0 ? -1 : n + 1);
        }
        check.same("uses(2, 15) by 13 links", graph.uses(2, 15), true);
        check.same("uses(14, 15)", graph.uses(14, 15), true);
        check.same("uses(14, 2)", graph.uses(14, 2), false);
        check.same("uses(2, 2)", graph.uses(2, 2), false);
        check.bad("a ring of 13 options", () -> graph.terms(14, 2, 8, false, 15));
        graph.terms(8, -1, 8, false, -1);
        check.same("uses(2, 15) when a link is gone", graph.uses(2, 15), false);
        check.same("uses(9, 15) when a link is gone", graph.uses(9, 15), true);
    }

    private static void refusesBadOnes(Check check) {
        QuoteGraph graph = Check.spotAndMove();
        for (int gone : new int[] {-1, 2, 16, 32, Integer.MIN_VALUE, Integer.MAX_VALUE}) {
            check.bad("uses(" + gone + ", 0)", () -> graph.uses(gone, 0));
            check.bad("uses(0, " + gone + ")", () -> graph.uses(0, gone));
        }
    }
}
