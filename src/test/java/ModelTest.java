import java.util.Random;
import java.util.function.Supplier;

/**
 * Long runs of calls on a graph and on the model: the same answers and the same state. An object
 * is good for 512 calls, so only a part of the state is looked at before a run's end.
 */
public final class ModelTest {
    private static final int RUNS = 1000;
    private static final int CALLS = 120;
    private static final int LOOKS = 2;
    private static final int MOST_CALLS = 512;
    /** How often each outcome that main names has turned up. */
    private static final int[] SEEN = new int[7];

    private final Check check = new Check();
    private final Random random;
    private final String run;
    private final QuoteGraph graph = new QuoteGraph();
    private final Model model = new Model();
    private final boolean large;
    private int calls;

    private ModelTest(int seed) {
        random = new Random(seed);
        run = "run " + seed;
        large = seed % 3 == 0;
    }

    public static void main(String[] args) {
        Check all = new Check();
        for (int seed = 1; seed <= RUNS; seed++) {
            new ModelTest(seed).compareAll();
        }
        String[] outcomes = {
            "values of a lattice", "values of paths", "values of a net", "ArithmeticException",
            "UnsupportedOperationException", "IllegalStateException", "IllegalArgumentException"
        };
        for (int i = 0; i < outcomes.length; i++) {
            all.same("there are many " + outcomes[i], SEEN[i] >= 200, true);
        }
        all.end();
    }

    private void compareAll() {
        compareQuotes();
        for (int call = 0; call < CALLS; call++) {
            compareOne(random.nextInt(26));
            for (int look = 0; look < LOOKS; look++) {
                compareSome();
            }
            endIfWrong();
        }
        compareState();
        check.same(run + ": calls are too many", calls > MOST_CALLS, false);
        endIfWrong();
    }

    private void compareQuotes() {
        for (int i = 0; i < 3; i++) {
            double given = i == 1 ? 0.125 * (1 + random.nextInt(large ? 800000 : 100)) : number();
            compare("quote(" + given + ")", () -> model.quote(given), () -> graph.quote(given));
        }
    }

    private void compareOne(int choice) {
        int a = anyNode();
        int b = anyNode();
        double number = number();
        if (choice < 1) {
            compare("quote " + number, () -> model.quote(number), () -> graph.quote(number));
        } else if (choice < 3) {
            double x = 0.125 * (random.nextInt(257) - 128);
            double y = 0.125 * (random.nextInt(33) - 16);
            String call = "blend " + a + " " + b + " " + x + " " + y;
            compare(call, () -> model.blend(a, b, x, y), () -> graph.blend(a, b, x, y));
        } else if (choice < 4) {
            String call = "greater " + a + " " + b;
            compare(call, () -> model.greater(a, b), () -> graph.greater(a, b));
        } else if (choice < 6) {
            int move = random.nextInt(4) == 0 ? b : 1;
            int kind = random.nextInt(4);
            int steps = 1 + random.nextInt(20);
            compare("option " + a + " " + move + " " + kind + " " + number + " " + steps,
                    () -> model.option(a, move, kind, number, steps),
                    () -> graph.option(a, move, kind, number, steps));
        } else if (choice < 9) {
            compareTerms(option());
        } else if (choice < 12) {
            compareEngine(option());
        } else if (choice < 16) {
            int q = random.nextInt(8) == 0 ? a : random.nextInt(3);
            compare("set " + q + " " + number,
                    () -> model.set(q, number), () -> graph.set(q, number));
        } else if (choice < 21) {
            compare("value " + a, () -> model.value(a), () -> graph.value(a));
            noteValue(a);
        } else if (choice < 23) {
            boolean on = random.nextInt(3) != 0;
            compare("freeze " + a + " " + on, () -> done(() -> model.freeze(a, on)),
                    () -> done(() -> graph.freeze(a, on)));
        } else {
            double by = 0.125 * (random.nextInt(16001) - 8000);
            int q = random.nextInt(8) == 0 ? b : random.nextInt(3);
            compare("bump " + a + " " + q + " " + by,
                    () -> model.bump(a, q, by), () -> graph.bump(a, q, by));
        }
    }

    private void compareTerms(int o) {
        int rate = random.nextInt(3) == 0 ? anyNode() : -1;
        int knock = random.nextInt(3) == 0 ? anyNode() : -1;
        int chance = 1 + random.nextInt(random.nextBoolean() ? 8 : 15);
        boolean american = random.nextInt(3) == 0;
        compare("terms " + o + " " + rate + " " + chance + " " + american + " " + knock,
                () -> done(() -> model.terms(o, rate, chance, american, knock)),
                () -> done(() -> graph.terms(o, rate, chance, american, knock)));
    }

    private void compareEngine(int o) {
        int engine = random.nextInt(3);
        int[] least = {0, 0, 1};
        int[] choices = {1, 7, 20};
        int size = least[engine] + random.nextInt(choices[engine]);
        compare("engine " + o + " " + engine + " " + size,
                () -> done(() -> model.engine(o, engine, size)),
                () -> done(() -> graph.engine(o, engine, size)));
    }

    private int anyNode() {
        return random.nextInt(model.nodes.size());
    }

    /** A node that is an option, if one turns up soon. */
    private int option() {
        for (int tries = 0; tries < 10; tries++) {
            int n = anyNode();
            if (model.nodes.get(n).sort == 'O') {
                return n;
            }
        }
        return anyNode();
    }

    private double number() {
        int most = large && random.nextBoolean() ? 800000 : 1000;
        double given = 0.125 * (random.nextInt(2 * most + 1) - most);
        return random.nextInt(3) == 0 ? given : Math.abs(given);
    }

    private static int done(Check.Call call) {
        call.run();
        return 0;
    }

    private void compare(String call, Supplier<Object> due, Supplier<Object> got) {
        calls++;
        String dueText = outcome(due);
        noteTrouble(dueText);
        String gotText = outcome(got);
        check.same(run + ": " + call + " answered " + gotText + " for " + dueText,
                gotText.equals(dueText), true);
        endIfWrong();
    }

    private static String outcome(Supplier<Object> call) {
        try {
            return String.valueOf(call.get());
        } catch (RuntimeException e) {
            return e.getClass().getSimpleName();
        }
    }

    private void compareState() {
        for (int what = 0; what <= 3; what++) {
            compareCount(what);
        }
        for (int n = 0; n < model.nodes.size(); n++) {
            for (int what = 0; what <= 5; what++) {
                compareNode(n, what);
            }
        }
    }

    private void compareSome() {
        int a = anyNode();
        int b = anyNode();
        int choice = random.nextInt(8);
        if (choice == 0) {
            calls++;
            check.same(run + ": uses " + a + " " + b, graph.uses(a, b), model.uses(a, b));
        } else if (choice == 1) {
            compareCount(random.nextInt(4));
        } else {
            compareNode(a, random.nextInt(6));
        }
    }

    private void compareCount(int what) {
        calls++;
        check.same(run + ": count " + what, graph.count(what), model.count(what));
    }

    private void compareNode(int n, int what) {
        calls++;
        check.same(run + ": node " + n + " " + what, graph.node(n, what), model.node(n, what));
    }

    private void endIfWrong() {
        if (check.isWrong()) {
            check.end();
        }
    }

    private void noteValue(int n) {
        Model.Node node = model.nodes.get(n);
        if (node.sort == 'O' && node.valid) {
            SEEN[node.engine]++;
        }
    }

    private static void noteTrouble(String outcome) {
        String[] troubles = {
            "ArithmeticException", "UnsupportedOperationException", "IllegalStateException",
            "IllegalArgumentException"
        };
        for (int i = 0; i < troubles.length; i++) {
            if (troubles[i].equals(outcome)) {
                SEEN[3 + i]++;
            }
        }
    }
}
