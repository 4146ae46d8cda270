/** Promise 7: engine. */
public final class EngineTest {
    private static final double[] NETS = {
        22506.0, 44837.4482421875, 63710.09765625, 73527.3310546875, 77023.98828125,
        77917.94921875, 78027.859375, 77976.2412109375, 77924.2861328125, 77888.9619140625,
        77870.1005859375, 77859.412109375, 77854.75390625, 77852.3974609375, 77851.59765625,
        77851.2353515625, 77851.1494140625, 77851.1142578125, 77851.1103515625, 77851.1083984375
    };

    public static void main(String[] args) {
        Check check = new Check();
        becomesALattice(check);
        becomesPathsOfEachSize(check);
        becomesANetOfEachSize(check);
        refusesOtherEngines(check);
        refusesWhatIsNoOption(check);
        refusesAFrozenOption(check);
        leavesTheEngineWhenRefused(check);
        tellsTheOption(check);
        check.end();
    }

    private static QuoteGraph call() {
        QuoteGraph graph = Graphs.withOption(0, 80, 3);
        graph.value(2);
        return graph;
    }

    private static QuoteGraph frozenCall() {
        QuoteGraph graph = call();
        graph.freeze(2, true);
        return graph;
    }

    private static void refusesSize(Check check, int engine, int size) {
        check.bad("engine " + engine + " of size " + size, EngineTest::call,
                graph -> graph.engine(2, engine, size));
    }

    private static void becomesALattice(Check check) {
        check.holds("Promise 7", "LATTICE (0, size 0)");
        QuoteGraph graph = call();
        graph.engine(2, 1, 0);
        graph.engine(2, 0, 0);
        check.same("a lattice again", graph.value(2), 6.0);
        for (int size : new int[] {-1, 1, 2, 20, Integer.MIN_VALUE, Integer.MAX_VALUE}) {
            refusesSize(check, 0, size);
        }
    }

    private static void becomesPathsOfEachSize(Check check) {
        check.holds("Promise 7", "PATHS (1, size 0 .. 6)");
        double[] due = {8, 4, 2, 1, 1.5, 2.5, 4};
        for (int size = 0; size <= 6; size++) {
            QuoteGraph graph = call();
            graph.engine(2, 1, size);
            check.same("paths of size " + size, graph.value(2), due[size]);
        }
        for (int size : new int[] {-1, 7, 8, 20, 32, Integer.MIN_VALUE, Integer.MAX_VALUE}) {
            refusesSize(check, 1, size);
        }
    }

    private static void becomesANetOfEachSize(Check check) {
        check.holds("Promise 7", "NET (2, size 1 .. 20)");
        for (int size = 1; size <= 20; size++) {
            QuoteGraph graph = new QuoteGraph();
            graph.quote(0);
            graph.quote(45056);
            graph.quote(1);
            graph.option(0, 1, 0, 0, 20);
            graph.terms(3, 2, 8, false, -1);
            graph.engine(3, 2, size);
            check.same("a net of size " + size, graph.value(3), NETS[size - 1]);
        }
        for (int size : new int[] {0, 21, -1, 22, Integer.MIN_VALUE, Integer.MAX_VALUE}) {
            refusesSize(check, 2, size);
        }
    }

    private static void refusesOtherEngines(Check check) {
        check.holds("Promise 7 and Terms", "for any number out of range");
        for (int engine : new int[] {-1, 3, 4, 256, Integer.MIN_VALUE, Integer.MAX_VALUE}) {
            for (int size : new int[] {0, 1, 6}) {
                refusesSize(check, engine, size);
            }
        }
    }

    private static void refusesWhatIsNoOption(Check check) {
        check.holds("Promise 7 and Terms", "a node that isn't there or is of the wrong sort");
        for (int wrong : new int[] {0, 3, 4, 8}) {
            check.bad("o " + wrong, Graphs::lively, graph -> graph.engine(wrong, 0, 0));
        }
        for (int gone : Graphs.goneNodes(10)) {
            check.bad("o " + gone, Graphs::lively, graph -> graph.engine(gone, 0, 0));
        }
    }

    private static void refusesAFrozenOption(Check check) {
        check.holds("Promise 7", "o is FROZEN: IllegalStateException.");
        check.badState("another engine", EngineTest::frozenCall, graph -> graph.engine(2, 1, 6));
        check.badState("its engine", EngineTest::frozenCall, graph -> graph.engine(2, 0, 0));
        check.holds("Promise 7 and Terms", "it comes before other troubles.");
        check.bad("lattice of size 1", EngineTest::frozenCall, graph -> graph.engine(2, 0, 1));
        check.bad("paths of size 7", EngineTest::frozenCall, graph -> graph.engine(2, 1, 7));
        check.bad("a net of size 0", EngineTest::frozenCall, graph -> graph.engine(2, 2, 0));
        check.bad("engine 3", EngineTest::frozenCall, graph -> graph.engine(2, 3, 0));
        check.holds("Promise 7", "o is FROZEN: IllegalStateException.");
        QuoteGraph graph = frozenCall();
        graph.freeze(2, false);
        graph.engine(2, 1, 6);
        check.same("taken when it's no longer frozen", graph.value(2), 4.0);
    }

    /** The engine itself shows only in the next working out. */
    private static void leavesTheEngineWhenRefused(Check check) {
        check.holds("Promise 7 and Terms", "then nothing has changed but what is said above.");
        QuoteGraph graph = call();
        graph.engine(2, 1, 1);
        graph.value(2);
        check.bad("a net of size 21", () -> graph.engine(2, 2, 21));
        check.bad("paths of size 7", () -> graph.engine(2, 1, 7));
        check.bad("lattice of size 1", () -> graph.engine(2, 0, 1));
        graph.freeze(2, true);
        check.badState("frozen", () -> graph.engine(2, 2, 1));
        graph.freeze(2, false);
        check.same("set(0, 88)", graph.set(0, 88), 1);
        // The two paths end at 96 and at 64.
        check.same("by the paths that it had", graph.value(2), 8.0);
    }

    private static void tellsTheOption(Check check) {
        check.holds("Promise 7", "Then o is told.");
        QuoteGraph graph = Graphs.withOption(3, 30, 2);
        int user = graph.greater(2, 0);
        graph.engine(2, 0, 0);
        check.same("told while stale", graph.count(1), 0);
        graph.value(user);
        graph.engine(2, 0, 0);
        check.same("told by the engine that it had", graph.count(1), 2);
        check.same("stale", graph.node(2, 1), 0);
        check.same("its user is stale", graph.node(user, 1), 0);
        graph.value(user);
        graph.freeze(user, true);
        graph.engine(2, 2, 20);
        check.same("told alone", graph.count(1), 3);
        check.same("its frozen user missed it", graph.node(user, 3), 1);
    }
}
