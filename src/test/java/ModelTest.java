import java.util.Random;
import java.util.function.Supplier;

/**
 * Runs of 512 calls, as many as an object is good for, on a graph and on the model: the same
 * answers and the same state. So that calls are left for changes, only a part of the state is
 * looked at before a run's end. Now and then an argument is wrong.
 */
public final class ModelTest {
    private static final int RUNS = 1000;
    private static final int CALLS = 136;
    private static final int LOOKS = 2;
    private static final int MOST_CALLS = 512;
    private static final int ONE_WRONG_OF = 40;
    /** How often each outcome that main names has turned up. */
    private static final int[] SEEN = new int[7];

    private final Check check = new Check();
    private final Random random;
    private final String run;
    private final QuoteGraph graph = new QuoteGraph();
    private final Model model = new Model();
    private final boolean large;
    private final boolean startsEmpty;
    private int calls;

    private ModelTest(int seed) {
        random = new Random(seed);
        run = "run " + seed;
        large = seed % 3 == 0;
        startsEmpty = seed % 8 == 0;
    }

    public static void main(String[] args) {
        Check all = new Check();
        for (int seed = 1; seed <= RUNS; seed++) {
            new ModelTest(seed).compareAll();
        }
        String[] outcomes = {
            "values of a lattice", "values of paths", "values of a net", "ArithmeticException",
            "UnsupportedOperationException", "IllegalStateException", "IllegalArgumentException"
        };
        for (int i = 0; i < outcomes.length; i++) {
            all.same("there are many " + outcomes[i], SEEN[i] >= 200, true);
        }
        all.end();
    }

    private void compareAll() {
        if (!startsEmpty) {
            compareQuotes();
        }
        for (int call = 0; call < CALLS; call++) {
            compareOne(random.nextInt(26));
            for (int look = 0; look < LOOKS; look++) {
                compareSome();
            }
        }
        compareState();
        while (calls < MOST_CALLS) {
            compareSome();
        }
        check.same(run + ": calls", calls, MOST_CALLS);
        endIfWrong();
    }

    private void compareQuotes() {
        for (int i = 0; i < 3; i++) {
            double given = i == 1 ? 0.125 * (1 + random.nextInt(large ? 800000 : 100)) : number();
            compare("quote " + given, () -> model.quote(given), () -> graph.quote(given));
        }
    }

    private void compareOne(int choice) {
        int a = anyNode();
        int b = anyNode();
        double number = number();
        if (choice < 1) {
            compare("quote " + number, () -> model.quote(number), () -> graph.quote(number));
        } else if (choice < 3) {
            double x = eighths(16);
            double y = eighths(2);
            String call = "blend " + a + " " + b + " " + x + " " + y;
            compare(call, () -> model.blend(a, b, x, y), () -> graph.blend(a, b, x, y));
        } else if (choice < 4) {
            String call = "greater " + a + " " + b;
            compare(call, () -> model.greater(a, b), () -> graph.greater(a, b));
        } else if (choice < 6) {
            int move = random.nextInt(4) == 0 ? b : 1;
            int kind = within(0, 3);
            int steps = within(1, 20);
            compare("option " + a + " " + move + " " + kind + " " + number + " " + steps,
                    () -> model.option(a, move, kind, number, steps),
                    () -> graph.option(a, move, kind, number, steps));
        } else if (choice < 9) {
            compareTerms(option());
        } else if (choice < 12) {
            compareEngine(option());
        } else if (choice < 16) {
            int q = random.nextInt(8) == 0 ? a : random.nextInt(3);
            compare("set " + q + " " + number,
                    () -> model.set(q, number), () -> graph.set(q, number));
        } else if (choice < 21) {
            compare("value " + a, () -> model.value(a), () -> graph.value(a));
            noteValue(a);
        } else if (choice < 23) {
            boolean on = random.nextInt(3) != 0;
            compare("freeze " + a + " " + on, () -> done(() -> model.freeze(a, on)),
                    () -> done(() -> graph.freeze(a, on)));
        } else {
            double by = eighths(1000);
            int q = random.nextInt(8) == 0 ? b : random.nextInt(3);
            compare("bump " + a + " " + q + " " + by,
                    () -> model.bump(a, q, by), () -> graph.bump(a, q, by));
        }
    }

    private void compareTerms(int o) {
        int rate = random.nextInt(3) == 0 ? anyNode() : -1;
        int knock = random.nextInt(3) == 0 ? anyNode() : -1;
        int chance = within(1, random.nextBoolean() ? 8 : 15);
        boolean american = random.nextInt(3) == 0;
        compare("terms " + o + " " + rate + " " + chance + " " + american + " " + knock,
                () -> done(() -> model.terms(o, rate, chance, american, knock)),
                () -> done(() -> graph.terms(o, rate, chance, american, knock)));
    }

    private void compareEngine(int o) {
        int engine = within(0, 2);
        int size = engine == 0 ? within(0, 0) : engine == 1 ? within(0, 6) : within(1, 20);
        compare("engine " + o + " " + engine + " " + size,
                () -> done(() -> model.engine(o, engine, size)),
                () -> done(() -> graph.engine(o, engine, size)));
    }

    private boolean wrongNow() {
        return random.nextInt(ONE_WRONG_OF) == 0;
    }

    private int anyNode() {
        int count = model.nodes.size();
        if (count == 0 || wrongNow()) {
            int[] gone = Graphs.goneNodes(count);
            return gone[random.nextInt(gone.length)];
        }
        return random.nextInt(count);
    }

    /** A node that is an option, if one turns up soon. */
    private int option() {
        for (int tries = 0; tries < 10; tries++) {
            int n = anyNode();
            if (isThere(n) && model.nodes.get(n).sort == 'O') {
                return n;
            }
        }
        return anyNode();
    }

    private boolean isThere(int n) {
        return n >= 0 && n < model.nodes.size();
    }

    private int within(int least, int most) {
        if (wrongNow()) {
            int[] outside = {least - 1, most + 1, Integer.MIN_VALUE, Integer.MAX_VALUE};
            return outside[random.nextInt(outside.length)];
        }
        return least + random.nextInt(most - least + 1);
    }

    private double eighths(int most) {
        return wrongNow() ? wrongNumber(most) : 0.125 * (random.nextInt(16 * most + 1) - 8 * most);
    }

    private double wrongNumber(int most) {
        double[] never = Graphs.neverNumbers();
        int choice = random.nextInt(never.length + 2);
        return choice < never.length ? never[choice]
                : choice == never.length ? most + 0.125 : -most - 0.125;
    }

    private double number() {
        if (wrongNow()) {
            return wrongNumber(100000);
        }
        int most = large && random.nextBoolean() ? 800000 : 1000;
        double given = 0.125 * (random.nextInt(2 * most + 1) - most);
        return random.nextInt(3) == 0 ? given : Math.abs(given);
    }

    private static int done(Check.Call call) {
        call.run();
        return 0;
    }

    private void compare(String call, Supplier<Object> due, Supplier<Object> got) {
        calls++;
        String dueText = outcome(due);
        noteTrouble(dueText);
        String gotText = outcome(got);
        check.same(run + ": " + call + " answered " + gotText + " for " + dueText,
                gotText.equals(dueText), true);
        endIfWrong();
    }

    private static String outcome(Supplier<Object> call) {
        try {
            return String.valueOf(call.get());
        } catch (RuntimeException e) {
            return e.getClass().getSimpleName();
        }
    }

    private void compareState() {
        for (int what = 0; what <= 3; what++) {
            compareCount(what);
        }
        for (int n = 0; n < model.nodes.size(); n++) {
            for (int what = 0; what <= 5; what++) {
                compareNode(n, what);
            }
        }
    }

    private void compareSome() {
        int a = anyNode();
        int b = anyNode();
        int choice = random.nextInt(8);
        if (choice == 0) {
            compare("uses " + a + " " + b, () -> model.uses(a, b), () -> graph.uses(a, b));
        } else if (choice == 1) {
            compareCount(within(0, 3));
        } else {
            compareNode(a, within(0, 5));
        }
    }

    private void compareCount(int what) {
        compare("count " + what, () -> model.count(what), () -> graph.count(what));
    }

    private void compareNode(int n, int what) {
        compare("node " + n + " " + what, () -> model.node(n, what), () -> graph.node(n, what));
    }

    private void endIfWrong() {
        if (check.isWrong()) {
            check.end();
        }
    }

    private void noteValue(int n) {
        if (isThere(n) && model.nodes.get(n).sort == 'O' && model.nodes.get(n).valid) {
            SEEN[model.nodes.get(n).engine]++;
        }
    }

    private static void noteTrouble(String outcome) {
        String[] troubles = {
            "ArithmeticException", "UnsupportedOperationException", "IllegalStateException",
            "IllegalArgumentException"
        };
        for (int i = 0; i < troubles.length; i++) {
            if (troubles[i].equals(outcome)) {
                SEEN[3 + i]++;
            }
        }
    }
}
