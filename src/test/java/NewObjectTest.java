/** Promise 1: a new object has no nodes. */
public final class NewObjectTest {
    public static void main(String[] args) {
        Check check = new Check();
        QuoteGraph graph = new QuoteGraph();
        for (int what = 0; what <= 3; what++) {
            check.same("count(" + what + ")", graph.count(what), 0);
        }
        check.bad("value(0)", () -> graph.value(0));
        check.bad("node(0, 0)", () -> graph.node(0, 0));
        check.bad("uses(0, 0)", () -> graph.uses(0, 0));
        check.bad("set(0, 1)", () -> graph.set(0, 1));
        check.bad("blend(0, 0, 1, 1)", () -> graph.blend(0, 0, 1, 1));
        check.bad("greater(0, 0)", () -> graph.greater(0, 0));
        check.bad("option(0, 0, 0, 0, 1)", () -> graph.option(0, 0, 0, 0, 1));
        check.bad("terms(0, -1, 8, false, -1)", () -> graph.terms(0, -1, 8, false, -1));
        check.bad("engine(0, 0, 0)", () -> graph.engine(0, 0, 0));
        check.bad("freeze(0, false)", () -> graph.freeze(0, false));
        check.bad("bump(0, 0, 0)", () -> graph.bump(0, 0, 0));
        for (int what = 0; what <= 3; what++) {
            check.same("count(" + what + ") later", graph.count(what), 0);
        }
        graph.quote(1);
        check.same("another new one's nodes", new QuoteGraph().count(0), 0);
        check.end();
    }
}
