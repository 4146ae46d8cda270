/**
 * A graph of prices: quotes are set from outside, and blends, greater ones and options hang on
 * them; each is worked out when it is asked for and kept until something that it hangs on changes.
 *
 * <p>An amount is a whole number of 1/1024: every value of a node and every price is one, so that
 * all the arithmetic is exact.
 */
public final class QuoteGraph {
    private static final int MOST_NODES = 16;
    private static final int MOST_STEPS = 20;
    private static final int MOST_PATHS_SIZE = 6;
    private static final int MOST_NET_SIZE = 20;
    private static final int MOST_NET_CHANCE = 8;
    private static final int MOST_QUOTE = 100000;
    private static final int MOST_WEIGHT = 16;
    private static final int MOST_BUMP = 1000;

    private static final int QUOTE = 0;
    private static final int BLEND = 1;
    private static final int GREATER = 2;
    private static final int OPTION = 3;

    private static final int CALL = 0;
    private static final int PUT = 1;
    private static final int DIGITAL = 2;
    private static final int FORWARD = 3;

    private static final int LATTICE = 0;
    private static final int NO_NODE = -1;

    private static final int SIXTEENTHS = 16;
    private static final int EIGHTH_BITS = 3;
    private static final int SIXTEENTH_BITS = 4;
    private static final int ONE_BITS = 10;
    private static final long ONE = 1024;
    private static final long EIGHTH = 128;
    private static final long DIGITAL_AMOUNT = 100 * ONE;
    private static final long MOST_AMOUNT = 1000000 * ONE;

    private final Node[] nodes;
    private final Engine[] engines;
    private int nodeCount;
    private int toldCount;
    private int workedCount;
    private int failureCount;

    public QuoteGraph() {
        nodes = new Node[MOST_NODES];
        engines = new Engine[] {new Lattice(), new Paths(), new Net()};
    }

    public int quote(double value) throws IllegalArgumentException, IllegalStateException {
        long amount = EIGHTH * eighthsOf(value, MOST_QUOTE);
        checkRoom();
        return add(new Quote(nodeCount, amount));
    }

    public int blend(int a, int b, double x, double y)
            throws IllegalArgumentException, IllegalStateException {
        Node first = nodeAt(a);
        Node second = nodeAt(b);
        long firstWeight = eighthsOf(x, MOST_WEIGHT);
        long secondWeight = eighthsOf(y, MOST_WEIGHT);
        checkRoom();
        return add(new Blend(nodeCount, first, second, firstWeight, secondWeight));
    }

    public int greater(int a, int b) throws IllegalArgumentException, IllegalStateException {
        Node first = nodeAt(a);
        Node second = nodeAt(b);
        checkRoom();
        return add(new Greater(nodeCount, first, second));
    }

    public int option(int spot, int move, int kind, double strike, int steps)
            throws IllegalArgumentException, IllegalStateException {
        Node spotNode = nodeAt(spot);
        Node moveNode = nodeAt(move);
        checkRange(kind, CALL, FORWARD);
        long strikeAmount = EIGHTH * eighthsOf(strike, MOST_QUOTE);
        checkRange(steps, 1, MOST_STEPS);
        checkRoom();
        Option made = new Option(nodeCount, spotNode, moveNode, kind, strikeAmount, steps);
        made.engine = engines[LATTICE];
        return add(made);
    }

    public void terms(int o, int rate, int chance, boolean american, int knock)
            throws IllegalArgumentException, IllegalStateException {
        Option option = optionAt(o);
        Node rateNode = extraPartAt(rate, option);
        Node knockNode = extraPartAt(knock, option);
        checkRange(chance, 1, SIXTEENTHS - 1);
        checkNotFrozen(option);
        option.takeParts(rateNode, knockNode);
        option.chance = chance;
        option.american = american;
        tell(option);
    }

    public void engine(int o, int engine, int size)
            throws IllegalArgumentException, IllegalStateException {
        Option option = optionAt(o);
        checkRange(engine, LATTICE, engines.length - 1);
        Engine chosen = engines[engine];
        checkRange(size, chosen.leastSize, chosen.mostSize);
        checkNotFrozen(option);
        option.engine = chosen;
        option.size = size;
        tell(option);
    }

    public int set(int q, double value) throws IllegalArgumentException {
        Quote changed = quoteAt(q);
        long amount = EIGHTH * eighthsOf(value, MOST_QUOTE);
        int toldBefore = toldCount;
        if (amount != changed.amount) {
            changed.amount = amount;
            tellUsersOf(changed);
        }
        return toldCount - toldBefore;
    }

    public double value(int n)
            throws IllegalArgumentException, ArithmeticException, UnsupportedOperationException {
        Node asked = nodeAt(n);
        raise(tryToAsk(asked));
        return numberOf(asked.amount);
    }

    public void freeze(int n, boolean on) throws IllegalArgumentException, IllegalStateException {
        Node node = nodeAt(n);
        if (node instanceof Quote) {
            throw new IllegalArgumentException("a quote can't be frozen");
        }
        if (on && !node.valid) {
            throw new IllegalStateException("a stale node can't be frozen");
        }
        node.frozen = on;
        if (!on && node.missed) {
            node.missed = false;
            tell(node);
        }
    }

    public double bump(int n, int q, double by)
            throws IllegalArgumentException, ArithmeticException, UnsupportedOperationException {
        Node asked = nodeAt(n);
        Quote moved = quoteAt(q);
        long more = EIGHTH * eighthsOf(by, MOST_BUMP);
        raise(tryToAsk(asked));
        long before = asked.amount;
        rememberAll();
        moved.amount += more;
        makeUsersStale(moved);
        Trouble trouble = tryToAsk(asked);
        long after = asked.amount;
        restoreAll();
        raise(trouble);
        return numberOf(after - before);
    }

    public boolean uses(int a, int b) throws IllegalArgumentException {
        return hangsOn(nodeAt(a), nodeAt(b));
    }

    public int node(int n, int what) throws IllegalArgumentException {
        Node asked = nodeAt(n);
        switch (what) {
            case 0:
                return asked.sort();
            case 1:
                return asked.valid ? 1 : 0;
            case 2:
                return asked.frozen ? 1 : 0;
            case 3:
                return asked.missed ? 1 : 0;
            case 4:
                return asked.partCount;
            case 5:
                return asked.timesWorked;
            default:
                throw new IllegalArgumentException("nothing of a node has this number");
        }
    }

    public int count(int what) {
        switch (what) {
            case 0:
                return nodeCount;
            case 1:
                return toldCount;
            case 2:
                return workedCount;
            case 3:
                return failureCount;
            default:
                return -1;
        }
    }

    private int add(Node made) {
        nodes[made.number] = made;
        nodeCount++;
        return made.number;
    }

    private void checkRoom() {
        if (nodeCount >= MOST_NODES) {
            throw new IllegalStateException("no room for one more node");
        }
    }

    private static void checkNotFrozen(Option option) {
        if (option.frozen) {
            throw new IllegalStateException("the option is frozen");
        }
    }

    private static void checkRange(int given, int least, int most) {
        if (given < least || given > most) {
            throw new IllegalArgumentException("a number is out of range");
        }
    }

    /** How many eighths the number has; NaN fails the comparisons and so is out of range too. */
    private static long eighthsOf(double given, int most) {
        if (given >= -most && given <= most) {
            long eighths = (long) (given * 8);
            if ((double) eighths == given * 8) {
                return eighths;
            }
        }
        throw new IllegalArgumentException("a number is out of range or no multiple of 0.125");
    }

    private static double numberOf(long amount) {
        return (double) amount / ONE;
    }

    private boolean isThere(int n) {
        return n >= 0 && n < nodeCount;
    }

    private Node nodeAt(int n) {
        if (isThere(n)) {
            return nodes[n];
        }
        throw new IllegalArgumentException("there is no such node");
    }

    private Quote quoteAt(int q) {
        if (isThere(q) && nodes[q] instanceof Quote found) {
            return found;
        }
        throw new IllegalArgumentException("there is no such quote");
    }

    private Option optionAt(int o) {
        if (isThere(o) && nodes[o] instanceof Option found) {
            return found;
        }
        throw new IllegalArgumentException("there is no such option");
    }

    /** A rate or knock for the option, or null for none; refuses what would close a ring. */
    private Node extraPartAt(int n, Option option) {
        if (n == NO_NODE) {
            return null;
        }
        Node part = nodeAt(n);
        if (part == option || hangsOn(part, option)) {
            throw new IllegalArgumentException("the option would use itself");
        }
        return part;
    }

    private boolean hangsOn(Node user, Node used) {
        return (bitsUsedBy(user) & used.bit()) != 0;
    }

    /** A bit for each node used; a way through the graph has fewer links than there are nodes. */
    private int bitsUsedBy(Node user) {
        int bits = user.partBits();
        for (int round = 0; round < nodeCount; round++) {
            for (int i = 0; i < nodeCount; i++) {
                if ((bits & nodes[i].bit()) != 0) {
                    bits |= nodes[i].partBits();
                }
            }
        }
        return bits;
    }

    /** Goes at most as deep as there are nodes (16): each one told is stale from then on. */
    private void tell(Node node) {
        if (!node.valid) {
            return;
        }
        if (node.frozen) {
            node.missed = true;
            return;
        }
        node.valid = false;
        toldCount++;
        tellUsersOf(node);
    }

    private void tellUsersOf(Node part) {
        for (int i = 0; i < nodeCount; i++) {
            if ((nodes[i].partBits() & part.bit()) != 0) {
                tell(nodes[i]);
            }
        }
    }

    /** Goes at most as deep as there are nodes (16): extraPartAt lets no node use itself. */
    private void ask(Node node) {
        if (node.valid) {
            return;
        }
        for (int i = 0; i < node.partCount; i++) {
            ask(node.parts[i]);
        }
        node.amount = notTooLarge(node.workOut());
        node.valid = true;
        node.timesWorked++;
        workedCount++;
    }

    /** Trouble comes back as an answer, so that bump can restore the nodes before it throws. */
    private Trouble tryToAsk(Node node) {
        try {
            ask(node);
        } catch (ArithmeticException e) {
            return Trouble.ARITHMETIC;
        } catch (UnsupportedOperationException e) {
            return Trouble.UNSUPPORTED;
        }
        return Trouble.NONE;
    }

    private void raise(Trouble trouble) {
        if (trouble == Trouble.NONE) {
            return;
        }
        failureCount++;
        if (trouble == Trouble.UNSUPPORTED) {
            throw new UnsupportedOperationException("paths can't price an american option");
        }
        throw new ArithmeticException("a value can't be worked out");
    }

    private void makeUsersStale(Node used) {
        for (int i = 0; i < nodeCount; i++) {
            if (!nodes[i].frozen && hangsOn(nodes[i], used)) {
                nodes[i].valid = false;
            }
        }
    }

    private void rememberAll() {
        for (int i = 0; i < nodeCount; i++) {
            nodes[i].remember();
        }
    }

    private void restoreAll() {
        for (int i = 0; i < nodeCount; i++) {
            nodes[i].restore();
        }
    }

    /** ROUNDED of amount / 2^bits: the shift to the right takes the floor, below 0 too. */
    private static long rounded(long amount, int bits) {
        return notTooLarge((2 * amount + (1L << bits)) >> (bits + 1));
    }

    private static long notTooLarge(long amount) {
        if (amount > MOST_AMOUNT || amount < -MOST_AMOUNT) {
            throw new ArithmeticException("a value is too large");
        }
        return amount;
    }

    private enum Trouble {
        NONE,
        ARITHMETIC,
        UNSUPPORTED
    }

    private abstract static class Node {
        final int number;
        final Node[] parts;
        int partCount;
        long amount;
        boolean valid;
        boolean frozen;
        boolean missed;
        int timesWorked;
        private long rememberedAmount;
        private boolean rememberedValid;

        Node(int number, Node[] parts, int partCount) {
            this.number = number;
            this.parts = parts;
            this.partCount = partCount;
        }

        abstract int sort();

        /** The value from the parts' amounts, which are valid when this is called. */
        abstract long workOut();

        int bit() {
            return 1 << number;
        }

        int partBits() {
            int bits = 0;
            for (int i = 0; i < partCount; i++) {
                bits |= parts[i].bit();
            }
            return bits;
        }

        void remember() {
            rememberedAmount = amount;
            rememberedValid = valid;
        }

        void restore() {
            amount = rememberedAmount;
            valid = rememberedValid;
        }
    }

    /** Always valid: it has no parts, so that nothing ever tells it or makes it stale. */
    private static final class Quote extends Node {
        Quote(int number, long amount) {
            super(number, new Node[0], 0);
            this.amount = amount;
            this.valid = true;
        }

        @Override
        int sort() {
            return QUOTE;
        }

        @Override
        long workOut() {
            return amount;
        }
    }

    private static final class Blend extends Node {
        private final long firstEighths;
        private final long secondEighths;

        Blend(int number, Node first, Node second, long firstEighths, long secondEighths) {
            super(number, new Node[] {first, second}, 2);
            this.firstEighths = firstEighths;
            this.secondEighths = secondEighths;
        }

        @Override
        int sort() {
            return BLEND;
        }

        @Override
        long workOut() {
            long sum = firstEighths * parts[0].amount + secondEighths * parts[1].amount;
            return rounded(sum, EIGHTH_BITS);
        }
    }

    private static final class Greater extends Node {
        Greater(int number, Node first, Node second) {
            super(number, new Node[] {first, second}, 2);
        }

        @Override
        int sort() {
            return GREATER;
        }

        @Override
        long workOut() {
            return Math.max(parts[0].amount, parts[1].amount);
        }
    }

    private static final class Option extends Node {
        final Node spot;
        final Node move;
        final int kind;
        final long strike;
        final int steps;
        Node rate;
        Node knock;
        int chance;
        boolean american;
        Engine engine;
        int size;

        Option(int number, Node spot, Node move, int kind, long strike, int steps) {
            super(number, new Node[] {spot, move, null, null}, 2);
            this.spot = spot;
            this.move = move;
            this.kind = kind;
            this.strike = strike;
            this.steps = steps;
            this.chance = SIXTEENTHS / 2;
        }

        @Override
        int sort() {
            return OPTION;
        }

        void takeParts(Node newRate, Node newKnock) {
            rate = newRate;
            knock = newKnock;
            partCount = 2;
            if (rate != null) {
                parts[partCount] = rate;
                partCount++;
            }
            if (knock != null) {
                parts[partCount] = knock;
                partCount++;
            }
        }

        @Override
        long workOut() {
            engine.checkSuits(this);
            if (move.amount <= 0) {
                throw new ArithmeticException("the move is not above 0");
            }
            return engine.price(this, discount());
        }

        /** What a step back leaves of 1024 parts. */
        private long discount() {
            long taken = rate == null ? 0 : rate.amount >> ONE_BITS;
            if (taken < 0 || taken > ONE) {
                throw new ArithmeticException("the rate is out of range");
            }
            return ONE - taken;
        }

        long priceAt(int moves) {
            return spot.amount + moves * move.amount;
        }

        boolean isOut(long price) {
            return knock != null && price >= knock.amount;
        }

        long payoff(long price) {
            return isOut(price) ? 0 : payoffInside(price);
        }

        /** The payoff at a price that is known not to be out. */
        long payoffInside(long price) {
            switch (kind) {
                case CALL:
                    return Math.max(price - strike, 0);
                case PUT:
                    return Math.max(strike - price, 0);
                case DIGITAL:
                    return price >= strike ? DIGITAL_AMOUNT : 0;
                default:
                    return price - strike;
            }
        }

        /** What a value that was stepped back is worth at the price of the earlier time. */
        long heldAt(long price, long stepped) {
            if (isOut(price)) {
                return 0;
            }
            return american ? Math.max(stepped, payoffInside(price)) : stepped;
        }
    }

    private abstract static class Engine {
        final int leastSize;
        final int mostSize;

        Engine(int leastSize, int mostSize) {
            this.leastSize = leastSize;
            this.mostSize = mostSize;
        }

        /** Throws if this engine can't price such an option, whatever its parts are worth. */
        abstract void checkSuits(Option option);

        abstract long price(Option option, long discount);
    }

    private static final class Lattice extends Engine {
        private final long[] row;

        Lattice() {
            super(0, 0);
            row = new long[MOST_STEPS + 1];
        }

        @Override
        void checkSuits(Option option) {
            // A lattice prices every option.
        }

        @Override
        long price(Option option, long discount) {
            for (int up = 0; up <= option.steps; up++) {
                row[up] = option.payoff(option.priceAt(2 * up - option.steps));
            }
            for (int time = option.steps - 1; time >= 0; time--) {
                stepBack(option, discount, time);
            }
            return row[0];
        }

        private void stepBack(Option option, long discount, int time) {
            int chance = option.chance;
            for (int up = 0; up <= time; up++) {
                long sum = chance * row[up + 1] + (SIXTEENTHS - chance) * row[up];
                long stepped = rounded(discount * sum, ONE_BITS + SIXTEENTH_BITS);
                row[up] = option.heldAt(option.priceAt(2 * up - time), stepped);
            }
        }
    }

    private static final class Paths extends Engine {
        private static final long FIRST_DRAW = 12345;
        private static final long DRAW_FACTOR = 1103515245;
        private static final long DRAW_MORE = 12345;
        private static final long DRAW_MASK = 2147483647;
        private static final int DRAW_SHIFT = 16;

        private long draw;

        Paths() {
            super(0, MOST_PATHS_SIZE);
        }

        @Override
        void checkSuits(Option option) {
            if (option.american) {
                throw new UnsupportedOperationException("a path doesn't tell when to stop");
            }
        }

        @Override
        long price(Option option, long discount) {
            draw = FIRST_DRAW;
            int pathCount = 1 << option.size;
            long sum = 0;
            for (int path = 0; path < pathCount; path++) {
                sum += endOfPath(option);
            }
            long worth = rounded(sum, option.size);
            for (int step = 0; step < option.steps; step++) {
                worth = rounded(discount * worth, ONE_BITS);
            }
            return worth;
        }

        /** Draws every step even when the path is out: the next path goes on in the stream. */
        private long endOfPath(Option option) {
            long price = option.spot.amount;
            boolean out = option.isOut(price);
            for (int step = 0; step < option.steps; step++) {
                price += drawsUp(option.chance) ? option.move.amount : -option.move.amount;
                out = out || option.isOut(price);
            }
            return out ? 0 : option.payoffInside(price);
        }

        private boolean drawsUp(int chance) {
            draw = (draw * DRAW_FACTOR + DRAW_MORE) & DRAW_MASK;
            return ((draw >> DRAW_SHIFT) & (SIXTEENTHS - 1)) < chance;
        }
    }

    private static final class Net extends Engine {
        private final long[] row;

        Net() {
            super(1, MOST_NET_SIZE);
            row = new long[2 * MOST_NET_SIZE + 1];
        }

        @Override
        void checkSuits(Option option) {
            if (option.chance > MOST_NET_CHANCE) {
                throw new ArithmeticException("the chance is too great for a net");
            }
        }

        @Override
        long price(Option option, long discount) {
            int middle = option.size;
            for (int i = 0; i <= 2 * middle; i++) {
                row[i] = option.payoff(option.priceAt(i - middle));
            }
            for (int step = 0; step < option.steps; step++) {
                stepBack(option, discount, middle);
            }
            return row[middle];
        }

        private void stepBack(Option option, long discount, int middle) {
            long below = row[0];
            for (int i = 1; i < 2 * middle; i++) {
                long here = row[i];
                long bend = row[i + 1] - 2 * here + below;
                long sum = SIXTEENTHS * here + option.chance * bend;
                long stepped = rounded(discount * sum, ONE_BITS + SIXTEENTH_BITS);
                row[i] = option.heldAt(option.priceAt(i - middle), stepped);
                below = here;
            }
        }
    }
}
