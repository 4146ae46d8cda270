/** "Terms", on asking: what is worked out, in which order, and what goes wrong first. */
public final class AskingTest {
    public static void main(String[] args) {
        Check check = new Check();
        aQuoteGivesItsValue(check);
        aValidOneGivesItsKeptValue(check);
        aStaleOneIsWorkedOut(check);
        onlyStalePartsAreWorkedOut(check);
        partsOfABlendAreAskedInOrder(check);
        partsOfAnOptionAreAskedInOrder(check);
        whatGoesWrongEndsItAll(check);
        whatGoesWrongFirstIsThrown(check);
        partsComeBeforeThePrice(check);
        check.end();
    }

    private static void aQuoteGivesItsValue(Check check) {
        check.holds("Terms", "ASKING a node: a QUOTE gives its value");
        QuoteGraph graph = Graphs.spotAndMove();
        check.same("value(0)", graph.value(0), 80.0);
        graph.set(0, -80);
        check.same("value(0) later", graph.value(0), -80.0);
        check.same("nothing was worked out", graph.count(2), 0);
    }

    private static void aValidOneGivesItsKeptValue(Check check) {
        check.holds("Terms", "a VALID one its KEPT value");
        QuoteGraph graph = Graphs.spotAndMove();
        int low = graph.blend(0, 1, 1, 1);
        int top = graph.greater(low, low);
        for (int times = 0; times < 3; times++) {
            check.same("value(top)", graph.value(top), 88.0);
            check.same("worked out", State.worked(graph), "0011");
        }
        graph.freeze(top, true);
        graph.set(0, 90);
        check.same("of a frozen one", graph.value(top), 88.0);
        check.same("its stale part isn't asked", State.valid(graph), "1101");
        check.same("nothing more was worked out", State.worked(graph), "0011");
    }

    private static void aStaleOneIsWorkedOut(Check check) {
        check.holds("Terms",
                "of a STALE one the PARTS are asked in their order, then it is WORKED OUT, and it's"
                + " VALID with that value.");
        QuoteGraph graph = Graphs.spotAndMove();
        int low = graph.blend(0, 1, 1, 1);
        int top = graph.blend(low, low, 1, 1);
        int beside = graph.greater(low, 0);
        check.same("value(top)", graph.value(top), 176.0);
        check.same("valid", State.valid(graph), "11110");
        check.same("a part that comes twice is worked out once", State.worked(graph), "00110");
        check.same("value(beside)", graph.value(beside), 88.0);
        check.same("worked out", State.worked(graph), "00111");
    }

    private static void onlyStalePartsAreWorkedOut(Check check) {
        check.holds("Terms",
                "of a STALE one the PARTS are asked in their order, then it is WORKED OUT, and it's"
                + " VALID with that value.");
        QuoteGraph graph = Graphs.spotAndMove();
        int left = graph.blend(0, 0, 1, 0);
        int right = graph.blend(1, 1, 1, 0);
        int top = graph.blend(left, right, 1, 1);
        check.same("value(top)", graph.value(top), 88.0);
        graph.set(1, 9);
        check.same("value(top) later", graph.value(top), 89.0);
        check.same("worked out", State.worked(graph), "00122");
    }

    /** Node 1 is too large; nodes 2 .. 5 are blends of 12500. */
    private static QuoteGraph withATooLargeOne() {
        QuoteGraph graph = new QuoteGraph();
        graph.quote(100000);
        graph.blend(0, 0, 16, 16);
        for (int i = 0; i < 4; i++) {
            graph.blend(0, 0, 0.125, 0);
        }
        return graph;
    }

    private static void partsOfABlendAreAskedInOrder(Check check) {
        check.holds("Terms", "the PARTS are asked in their order");
        for (int sort = 1; sort <= 2; sort++) {
            for (int large = 0; large < 2; large++) {
                QuoteGraph graph = withATooLargeOne();
                int a = large == 0 ? 1 : 2;
                int b = large == 1 ? 1 : 2;
                int top = sort == 1 ? graph.blend(a, b, 0, 0) : graph.greater(a, b);
                check.arithmetic("value(top)", () -> graph.value(top));
                String valid = large == 0 ? "1000000" : "1010000";
                check.same("sort " + sort + ", part " + large, State.valid(graph), valid);
            }
        }
    }

    private static void partsOfAnOptionAreAskedInOrder(Check check) {
        check.holds("Terms",
                "An OPTION has the PARTS spot and move, then a rate if it has one, then a knock if"
                + " it has one");
        String[] valid = {"1000000", "1010000", "1011000", "1011100"};
        for (int large = 0; large < 4; large++) {
            QuoteGraph graph = withATooLargeOne();
            int[] parts = {2, 3, 4, 5};
            parts[large] = 1;
            int o = graph.option(parts[0], parts[1], 0, 0, 1);
            graph.terms(o, parts[2], 8, false, parts[3]);
            check.arithmetic("value(o)", () -> graph.value(o));
            String due = valid[large];
            check.same("part " + large + " is too large", State.valid(graph), due);
        }
        QuoteGraph graph = withATooLargeOne();
        int o = graph.option(2, 3, 0, 0, 1);
        graph.terms(o, -1, 8, false, 1);
        check.arithmetic("value(o)", () -> graph.value(o));
        check.same("a knock without a rate", State.valid(graph), "1011000");
    }

    private static void whatGoesWrongEndsItAll(Check check) {
        check.holds("Terms",
                "What goes wrong on the way ends it all; nodes that were WORKED OUT before stay"
                + " VALID.");
        QuoteGraph start = new QuoteGraph();
        start.quote(100000);
        int fine = start.blend(0, 0, 1, 1);
        int large = start.blend(0, 0, 16, 16);
        int unasked = start.blend(0, 0, 2, 1);
        int low = start.greater(fine, large);
        int top = start.greater(low, unasked);
        QuoteGraph graph = check.arithmetic("value(top)", () -> start, made -> made.value(top));
        check.same("valid", State.valid(graph), "110000");
        check.same("worked out", State.worked(graph), "010000");
        check.arithmetic("value(top) again", () -> graph.value(top));
        check.same("what was fine is kept", State.worked(graph), "010000");
        check.same("and told as ever", graph.set(0, 10), 1);
        check.same("value(top) by 10", graph.value(top), 320.0);
        check.same("worked out by 10", State.worked(graph), "021111");
        check.same("count(3)", graph.count(3), 2);
    }

    /** A blend that is too large (1) and an american option on paths (3), asked by a user (4). */
    private static QuoteGraph withTwoTroubles(boolean largeFirst) {
        QuoteGraph graph = new QuoteGraph();
        graph.quote(100000);
        graph.blend(0, 0, 16, 16);
        graph.blend(0, 0, 1, 0);
        graph.option(2, 0, 3, 0, 1);
        graph.terms(3, -1, 8, true, -1);
        graph.engine(3, 1, 0);
        graph.blend(largeFirst ? 1 : 3, largeFirst ? 3 : 1, 1, 1);
        return graph;
    }

    private static void whatGoesWrongFirstIsThrown(Check check) {
        check.holds("Terms",
                "What goes wrong on the way ends it all; nodes that were WORKED OUT before stay"
                + " VALID.");
        QuoteGraph large = check.arithmetic("too large first", () -> withTwoTroubles(true),
                graph -> graph.value(4));
        check.same("valid", State.valid(large), "10000");
        QuoteGraph early = check.unsupported("american first", () -> withTwoTroubles(false),
                graph -> graph.value(4));
        check.same("valid", State.valid(early), "10100");
    }

    /** Asking comes before working out, and only the latter looks at the engine. */
    private static void partsComeBeforeThePrice(Check check) {
        check.holds("Terms", "the PARTS are asked in their order, then it is WORKED OUT");
        for (int part = 0; part < 4; part++) {
            QuoteGraph graph = withATooLargeOne();
            int[] parts = {2, 3, 4, 5};
            parts[part] = 1;
            int o = graph.option(parts[0], parts[1], 0, 0, 1);
            graph.terms(o, parts[2], 8, true, parts[3]);
            graph.engine(o, 1, 0);
            check.arithmetic("american paths on a large part " + part, () -> graph.value(o));
        }
        QuoteGraph graph = withATooLargeOne();
        int o = graph.option(2, 3, 0, 0, 1);
        graph.terms(o, 4, 8, true, 5);
        graph.engine(o, 1, 0);
        check.unsupported("american paths", () -> graph.value(o));
        check.same("their parts are valid", State.valid(graph), "1011110");
    }
}
