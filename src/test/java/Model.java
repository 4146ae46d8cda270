import java.math.BigDecimal;
import java.math.RoundingMode;
import java.util.ArrayList;
import java.util.List;

/**
 * The document in its plainest form, in exact decimals and with nothing clever: what QuoteGraph
 * answers must be what this answers.
 */
final class Model {
    static final class Node {
        char sort;
        List<Integer> parts = new ArrayList<>();
        BigDecimal value = BigDecimal.ZERO;
        boolean valid;
        boolean frozen;
        boolean missed;
        int worked;
        BigDecimal x;
        BigDecimal y;
        int kind;
        BigDecimal strike;
        int steps;
        int rate = -1;
        int knock = -1;
        int chance = 8;
        boolean american;
        int engine;
        int size;
    }

    private static final BigDecimal UNIT = new BigDecimal(1024);
    private static final BigDecimal MOST = new BigDecimal(1000000);

    final List<Node> nodes = new ArrayList<>();
    int told;
    int worked;
    int failures;

    int quote(double value) {
        BigDecimal given = number(value, 100000);
        Node made = add('Q');
        made.value = given;
        made.valid = true;
        return nodes.size() - 1;
    }

    int blend(int a, int b, double x, double y) {
        refuseGone(a, b);
        BigDecimal first = number(x, 16);
        BigDecimal second = number(y, 16);
        Node made = add('B', a, b);
        made.x = first;
        made.y = second;
        return nodes.size() - 1;
    }

    int greater(int a, int b) {
        refuseGone(a, b);
        add('G', a, b);
        return nodes.size() - 1;
    }

    int option(int spot, int move, int kind, double strike, int steps) {
        refuseGone(spot, move);
        refuseOutside(kind, 0, 3);
        BigDecimal given = number(strike, 100000);
        refuseOutside(steps, 1, 20);
        Node made = add('O', spot, move);
        made.kind = kind;
        made.strike = given;
        made.steps = steps;
        return nodes.size() - 1;
    }

    private void refuseGone(int... given) {
        for (int n : given) {
            refuseOutside(n, 0, nodes.size() - 1);
        }
    }

    private static void refuseOutside(int given, int least, int most) {
        if (given < least || given > most) {
            throw new IllegalArgumentException();
        }
    }

    private static BigDecimal number(double given, int most) {
        if (Double.isNaN(given) || Double.isInfinite(given)) {
            throw new IllegalArgumentException();
        }
        BigDecimal exact = new BigDecimal(given);
        boolean eighths = exact.remainder(new BigDecimal("0.125")).signum() == 0;
        if (!eighths || exact.abs().compareTo(new BigDecimal(most)) > 0) {
            throw new IllegalArgumentException();
        }
        return exact;
    }

    private Node add(char sort, int... parts) {
        if (nodes.size() == 16) {
            throw new IllegalStateException();
        }
        Node made = new Node();
        made.sort = sort;
        for (int part : parts) {
            made.parts.add(part);
        }
        nodes.add(made);
        return made;
    }

    void terms(int o, int rate, int chance, boolean american, int knock) {
        Node option = nodeAt(o, 'O');
        if (closesRing(rate, o) || closesRing(knock, o)) {
            throw new IllegalArgumentException();
        }
        refuseOutside(chance, 1, 15);
        refuseFrozen(option);
        option.rate = rate;
        option.knock = knock;
        option.chance = chance;
        option.american = american;
        option.parts = new ArrayList<>(option.parts.subList(0, 2));
        if (rate >= 0) {
            option.parts.add(rate);
        }
        if (knock >= 0) {
            option.parts.add(knock);
        }
        tell(o);
    }

    private boolean closesRing(int part, int o) {
        return part == o || part != -1 && uses(part, o);
    }

    void engine(int o, int engine, int size) {
        Node option = nodeAt(o, 'O');
        refuseOutside(engine, 0, 2);
        refuseOutside(size, new int[] {0, 0, 1}[engine], new int[] {0, 6, 20}[engine]);
        refuseFrozen(option);
        option.engine = engine;
        option.size = size;
        tell(o);
    }

    private Node nodeAt(int n, char sort) {
        refuseGone(n);
        if (nodes.get(n).sort != sort) {
            throw new IllegalArgumentException();
        }
        return nodes.get(n);
    }

    private static void refuseFrozen(Node option) {
        if (option.frozen) {
            throw new IllegalStateException();
        }
    }

    int set(int q, double value) {
        Node quote = nodeAt(q, 'Q');
        BigDecimal given = number(value, 100000);
        int before = told;
        if (quote.value.compareTo(given) != 0) {
            quote.value = given;
            tellUsers(q);
        }
        return told - before;
    }

    private void tell(int n) {
        Node node = nodes.get(n);
        if (node.sort == 'Q' || !node.valid) {
            return;
        }
        if (node.frozen) {
            node.missed = true;
            return;
        }
        node.valid = false;
        told++;
        tellUsers(n);
    }

    private void tellUsers(int n) {
        for (int user = 0; user < nodes.size(); user++) {
            if (nodes.get(user).parts.contains(n)) {
                tell(user);
            }
        }
    }

    double value(int n) {
        refuseGone(n);
        return counted(n).doubleValue();
    }

    private BigDecimal counted(int n) {
        try {
            return ask(n);
        } catch (ArithmeticException | UnsupportedOperationException e) {
            failures++;
            throw e;
        }
    }

    void freeze(int n, boolean on) {
        refuseGone(n);
        Node node = nodes.get(n);
        if (node.sort == 'Q') {
            throw new IllegalArgumentException();
        }
        if (node.frozen == on) {
            return;
        }
        if (on && !node.valid) {
            throw new IllegalStateException();
        }
        node.frozen = on;
        boolean wasMissed = node.missed;
        node.missed = false;
        if (wasMissed) {
            tell(n);
        }
    }

    double bump(int n, int q, double by) {
        refuseGone(n);
        Node quote = nodeAt(q, 'Q');
        BigDecimal more = number(by, 1000);
        BigDecimal before = counted(n);
        List<BigDecimal> values = new ArrayList<>();
        List<Boolean> valid = new ArrayList<>();
        for (Node node : nodes) {
            values.add(node.value);
            valid.add(node.valid);
        }
        try {
            quote.value = quote.value.add(more);
            for (int user = 0; user < nodes.size(); user++) {
                if (uses(user, q) && !nodes.get(user).frozen) {
                    nodes.get(user).valid = false;
                }
            }
            return counted(n).subtract(before).doubleValue();
        } finally {
            for (int i = 0; i < nodes.size(); i++) {
                nodes.get(i).value = values.get(i);
                nodes.get(i).valid = valid.get(i);
            }
        }
    }

    boolean uses(int a, int b) {
        refuseGone(a, b);
        return uses(a, b, new boolean[16]);
    }

    private boolean uses(int a, int b, boolean[] seen) {
        if (seen[a]) {
            return false;
        }
        seen[a] = true;
        for (int part : nodes.get(a).parts) {
            if (part == b || uses(part, b, seen)) {
                return true;
            }
        }
        return false;
    }

    int node(int n, int what) {
        refuseGone(n);
        refuseOutside(what, 0, 5);
        Node node = nodes.get(n);
        int[] answers = {
            "QBGO".indexOf(node.sort), node.valid ? 1 : 0, node.frozen ? 1 : 0,
            node.missed ? 1 : 0, node.parts.size(), node.worked
        };
        return answers[what];
    }

    int count(int what) {
        int[] answers = {nodes.size(), told, worked, failures};
        return what < 0 || what > 3 ? -1 : answers[what];
    }

    private BigDecimal ask(int n) {
        Node node = nodes.get(n);
        if (node.valid) {
            return node.value;
        }
        List<BigDecimal> values = new ArrayList<>();
        for (int part : node.parts) {
            values.add(ask(part));
        }
        node.value = bounded(workOut(node, values));
        node.valid = true;
        node.worked++;
        worked++;
        return node.value;
    }

    private static BigDecimal workOut(Node node, List<BigDecimal> values) {
        BigDecimal a = values.get(0);
        BigDecimal b = values.get(1);
        if (node.sort == 'B') {
            return rounded(node.x.multiply(a).add(node.y.multiply(b)));
        }
        return node.sort == 'G' ? a.max(b) : new Pricer(node, values).price();
    }

    static BigDecimal rounded(BigDecimal y) {
        BigDecimal units = y.multiply(UNIT).add(new BigDecimal("0.5"));
        return bounded(units.setScale(0, RoundingMode.FLOOR).divide(UNIT));
    }

    private static BigDecimal bounded(BigDecimal value) {
        if (value.abs().compareTo(MOST) > 0) {
            throw new ArithmeticException();
        }
        return value;
    }

    /** One pricing of one option. */
    private static final class Pricer {
        private static final BigDecimal SIXTEEN = new BigDecimal(16);

        private final Node option;
        private final BigDecimal s;
        private final BigDecimal u;
        private final BigDecimal rate;
        private final BigDecimal knock;
        private BigDecimal d;
        private long z = 12345;

        Pricer(Node option, List<BigDecimal> values) {
            this.option = option;
            s = values.get(0);
            u = values.get(1);
            rate = option.rate < 0 ? BigDecimal.ZERO : values.get(2);
            knock = option.knock < 0 ? null : values.get(values.size() - 1);
        }

        BigDecimal price() {
            if (option.engine == 1 && option.american) {
                throw new UnsupportedOperationException();
            }
            BigDecimal g = rate.setScale(0, RoundingMode.FLOOR);
            if (u.signum() <= 0 || g.signum() < 0 || g.compareTo(UNIT) > 0) {
                throw new ArithmeticException();
            }
            d = BigDecimal.ONE.subtract(g.divide(UNIT));
            switch (option.engine) {
                case 0:
                    return lattice();
                case 1:
                    return paths();
                default:
                    return net();
            }
        }

        private BigDecimal at(int moves) {
            return s.add(u.multiply(new BigDecimal(moves)));
        }

        private boolean out(BigDecimal x) {
            return knock != null && x.compareTo(knock) >= 0;
        }

        private BigDecimal payoff(BigDecimal x) {
            BigDecimal gain = x.subtract(option.strike);
            if (out(x)) {
                return BigDecimal.ZERO;
            }
            switch (option.kind) {
                case 0:
                    return gain.max(BigDecimal.ZERO);
                case 1:
                    return gain.negate().max(BigDecimal.ZERO);
                case 2:
                    return gain.signum() < 0 ? BigDecimal.ZERO : new BigDecimal(100);
                default:
                    return gain;
            }
        }

        private BigDecimal held(BigDecimal x, BigDecimal stepped) {
            if (out(x)) {
                return BigDecimal.ZERO;
            }
            return option.american ? stepped.max(payoff(x)) : stepped;
        }

        private BigDecimal lattice() {
            BigDecimal[][] grid = new BigDecimal[option.steps + 1][option.steps + 1];
            BigDecimal p = new BigDecimal(option.chance);
            for (int t = option.steps; t >= 0; t--) {
                for (int j = 0; j <= t; j++) {
                    BigDecimal x = at(2 * j - t);
                    if (t == option.steps) {
                        grid[t][j] = payoff(x);
                        continue;
                    }
                    BigDecimal y = p.multiply(grid[t + 1][j + 1])
                            .add(SIXTEEN.subtract(p).multiply(grid[t + 1][j])).divide(SIXTEEN);
                    grid[t][j] = held(x, rounded(d.multiply(y)));
                }
            }
            return grid[0][0];
        }

        private BigDecimal paths() {
            int all = 1 << option.size;
            BigDecimal sum = BigDecimal.ZERO;
            for (int path = 0; path < all; path++) {
                BigDecimal x = s;
                boolean isOut = out(x);
                for (int step = 0; step < option.steps; step++) {
                    z = Math.floorMod(z * 1103515245L + 12345L, 1L << 31);
                    boolean up = (z / 65536) % 16 < option.chance;
                    x = up ? x.add(u) : x.subtract(u);
                    isOut |= out(x);
                }
                sum = sum.add(isOut ? BigDecimal.ZERO : payoff(x));
            }
            BigDecimal y = rounded(sum.divide(new BigDecimal(all)));
            for (int step = 0; step < option.steps; step++) {
                y = rounded(d.multiply(y));
            }
            return y;
        }

        private BigDecimal net() {
            if (option.chance > 8) {
                throw new ArithmeticException();
            }
            int size = option.size;
            BigDecimal share = new BigDecimal(option.chance).divide(SIXTEEN);
            BigDecimal[] before = new BigDecimal[2 * size + 1];
            for (int i = -size; i <= size; i++) {
                before[i + size] = payoff(at(i));
            }
            for (int step = 0; step < option.steps; step++) {
                BigDecimal[] after = before.clone();
                for (int i = 1; i < 2 * size; i++) {
                    BigDecimal bend = before[i + 1].add(before[i - 1])
                            .subtract(before[i].add(before[i]));
                    BigDecimal y = before[i].add(share.multiply(bend));
                    after[i] = held(at(i - size), rounded(d.multiply(y)));
                }
                before = after;
            }
            return before[size];
        }
    }
}
