/**
 * Property tests over numbers that generators make from rows of choices: rows are drawn by a seed,
 * a row that makes a property fail is kept and shrunk, and small generators are gone through in full.
 */
public final class PropertyShrink {
    public static final int NONE = -1;

    private static final int MOST_GENERATORS = 20;
    private static final int MOST_PROPERTIES = 10;
    private static final int MOST_DEEP = 8;
    private static final int MOST_IN_ROW = 60;
    private static final int MOST_IN_LIST = 9;
    private static final int FARTHEST = 1000;
    private static final int KEEP_ROUNDS = 3;
    private static final int MOST_LEAST = 10;
    private static final int MOST_RUNS = 60;
    private static final int MOST_TRIES = 400;
    private static final int MOST_ROWS = 200;
    private static final int MOST_LOOKED_AT = 2000;
    private static final int LONGEST_DROP = 8;
    private static final int WAYS_TO_LOWER = 3;

    private static final int INT = 0;
    private static final int LIST = 1;
    private static final int PAIR = 2;
    private static final int ONE_OF = 3;
    private static final int KEEP = 4;
    private static final int ADD = 5;

    private static final int SUM_ABOVE = 0;
    private static final int ONE_IS = 1;
    private static final int ONE_FALLS = 2;
    private static final int SO_MANY = 3;
    private static final int ONE_THROWS = 4;

    private static final int PASSES = 0;
    private static final int FAILS = 1;
    private static final int THROWN = 2;
    private static final int DISCARDED = 3;
    private static final int ILL = 4;

    private static final int FOUND = -1;
    private static final int TOO_FEW = -2;
    private static final int NO_SUCH = -3;

    /** What a group of steps answers when it has made the step that was asked for. */
    private static final int MADE = -1;

    private final Generator[] generators = new Generator[MOST_GENERATORS];
    private int generatorCount;
    private final Property[] properties = new Property[MOST_PROPERTIES];
    private int propertyCount;

    private Kept latestKept;
    private int keptCount;
    private int wastes;

    /** Null, like foundProperty, as long as there is no ROW. */
    private Generator foundGenerator;
    private Property foundProperty;
    private int foundVerdict;
    private boolean rowIsLeast;
    private final Ints row = new Ints();
    private final Ints numbers = new Ints();
    private final Ints puts = new Ints();

    private final Ints step = new Ints();
    private final Draws draws = new Draws();
    private long rowsSum;

    public PropertyShrink() {
    }

    public int generator(int kind, int a, int b) {
        if (generatorCount >= MOST_GENERATORS) {
            return NONE;
        }
        Generator made = makeGenerator(kind, a, b);
        if (made == null || made.deep > MOST_DEEP) {
            return NONE;
        }
        generators[generatorCount] = made;
        generatorCount++;
        return generatorCount - 1;
    }

    public int property(int kind, int k, int least) {
        if (propertyCount >= MOST_PROPERTIES || kind < SUM_ABOVE || kind > ONE_THROWS) {
            return NONE;
        }
        if (least < 0 || least > MOST_LEAST) {
            return NONE;
        }
        properties[propertyCount] = new Property(kind, k, least);
        propertyCount++;
        return propertyCount - 1;
    }

    public int check(int generator, int property, long seed, int runs) {
        Generator g = generatorAt(generator);
        Property p = propertyAt(property);
        if (g == null || p == null || runs < 1 || runs > MOST_RUNS) {
            return NO_SUCH;
        }
        wastes = 0;
        if (findAmongKept(generator, property)) {
            return FOUND;
        }
        int answer = findBySeed(g, p, seed, runs);
        if (answer == FOUND) {
            latestKept = new Kept(generator, property, row, latestKept);
            keptCount++;
        }
        return answer;
    }

    public int shrink(int tries) {
        Generator g = foundGenerator;
        Property p = foundProperty;
        if (g == null || p == null || tries < 0 || tries > MOST_TRIES) {
            return NONE;
        }
        // A replay may have put other NUMBERS in the place of the ROW's, and perhaps no step goes.
        replayRow(g, p, row);
        takeRow();
        int got = 0;
        int which = 0;
        for (int tried = 0; tried < tries; tried++) {
            if (!makeStep(which)) {
                rowIsLeast = true;
                return got;
            }
            which++;
            if (replayRow(g, p, step) == foundVerdict) {
                takeRow();
                got++;
                which = 0;
            }
        }
        return got;
    }

    public boolean least() {
        return rowIsLeast;
    }

    public int replay(int generator, int property) {
        Generator g = generatorAt(generator);
        Property p = propertyAt(property);
        if (g == null || p == null) {
            return NONE;
        }
        int verdict = replayRow(g, p, puts);
        puts.cutTo(0);
        numbers.copyFrom(draws.numbers);
        if (verdict == ILL) {
            numbers.cutTo(0);
        }
        return verdict;
    }

    public boolean put(int choice) {
        return choice >= 0 && puts.add(choice);
    }

    public int choice(int i) {
        return row.at(i, NONE);
    }

    public int size(int what) {
        switch (what) {
            case 0:
                return row.length();
            case 1:
                return numbers.length();
            case 2:
                return keptCount;
            case 3:
                return wastes;
            default:
                return NONE;
        }
    }

    public int number(int i) {
        return numbers.at(i, 0);
    }

    public int all(int generator, int most) {
        Generator g = generatorAt(generator);
        if (g == null || most < 1 || most > MOST_ROWS) {
            return NONE;
        }
        rowsSum = 0;
        int count = 0;
        boolean more = true;
        draws.beginFirstTurn();
        for (int looked = 0; looked < MOST_LOOKED_AT && count < most && more; looked++) {
            g.give(draws);
            if (!draws.ill) {
                count++;
                addToRowsSum(draws.numbers);
            }
            more = draws.beginNextTurn();
        }
        return count;
    }

    public long sum() {
        return rowsSum;
    }

    private Generator generatorAt(int i) {
        return i >= 0 && i < generatorCount && i < generators.length ? generators[i] : null;
    }

    private Property propertyAt(int i) {
        return i >= 0 && i < propertyCount && i < properties.length ? properties[i] : null;
    }

    /** The generator, or null if a and b aren't as its kind wants them. */
    private Generator makeGenerator(int kind, int a, int b) {
        if (kind == INT) {
            return isNear(a) && isNear(b) && a <= b ? new IntRange(a, b) : null;
        }
        Generator first = generatorAt(a);
        if (first == null) {
            return null;
        }
        switch (kind) {
            case LIST:
                return b >= 0 && b <= MOST_IN_LIST ? new ListOf(first, b) : null;
            case KEEP:
                return b == 0 || b == 1 ? new KeepOf(first, b) : null;
            case ADD:
                return isNear(b) ? new AddTo(first, b) : null;
            default:
                return makeOfTwo(kind, first, generatorAt(b));
        }
    }

    private static Generator makeOfTwo(int kind, Generator first, Generator second) {
        if (first == null || second == null) {
            return null;
        }
        switch (kind) {
            case PAIR:
                return new PairOf(first, second);
            case ONE_OF:
                return new OneOf(first, second);
            default:
                return null;
        }
    }

    private static boolean isNear(int number) {
        return number >= -FARTHEST && number <= FARTHEST;
    }

    private int replayRow(Generator g, Property p, Ints given) {
        draws.beginRow(given);
        g.give(draws);
        return verdictOfDraws(p);
    }

    private int verdictOfDraws(Property p) {
        return draws.ill ? ILL : p.judge(draws.numbers);
    }

    private static boolean isBad(int verdict) {
        return verdict == FAILS || verdict == THROWN;
    }

    private boolean findAmongKept(int generator, int property) {
        Generator g = generatorAt(generator);
        Property p = propertyAt(property);
        if (g == null || p == null) {
            return false;
        }
        for (Kept kept = latestKept; kept != null; kept = kept.earlier) {
            if (kept.generator == generator && kept.property == property) {
                int verdict = replayRow(g, p, kept.choices);
                if (isBad(verdict)) {
                    takeFound(g, p, verdict);
                    return true;
                }
            }
        }
        return false;
    }

    private int findBySeed(Generator g, Property p, long seed, int runs) {
        int passed = 0;
        draws.sow(seed);
        for (int z = 0; passed < runs && z <= 2 * MOST_RUNS; z++) {
            draws.beginTry(z);
            g.give(draws);
            int verdict = verdictOfDraws(p);
            if (isBad(verdict)) {
                takeFound(g, p, verdict);
                return FOUND;
            }
            if (verdict == PASSES) {
                passed++;
            } else {
                wastes++;
            }
            if (wastes > runs) {
                return TOO_FEW;
            }
        }
        return runs;
    }

    private void takeFound(Generator g, Property p, int verdict) {
        foundGenerator = g;
        foundProperty = p;
        foundVerdict = verdict;
        rowIsLeast = false;
        takeRow();
    }

    private void takeRow() {
        row.copyFrom(draws.choices);
        numbers.copyFrom(draws.numbers);
    }

    /** Makes the ROW's step of that number, counted from 0; false if it has no more steps. */
    private boolean makeStep(int which) {
        int left = makeDrop(which);
        if (left != MADE) {
            left = makeLowering(left);
        }
        if (left != MADE) {
            left = makeSwap(left);
        }
        return left == MADE;
    }

    /** MADE, or how far the step lies behind the last drop. */
    private int makeDrop(int which) {
        int left = which;
        for (int n = LONGEST_DROP; n >= 1; n /= 2) {
            int places = Math.max(0, row.length() - n + 1);
            if (left < places) {
                step.copyWithout(row, left, n);
                return MADE;
            }
            left -= places;
        }
        return left;
    }

    /** MADE, or how far the step lies behind the last lowering. */
    private int makeLowering(int which) {
        int left = which;
        for (int i = 0; i < row.length(); i++) {
            int high = row.at(i, 0);
            // Of 0, half and one less, a 1 has only the 0, and for a 2 half and one less are the same.
            int ways = Math.min(high, WAYS_TO_LOWER);
            if (left < ways) {
                step.copyFrom(row);
                step.set(i, lowered(high, left));
                return MADE;
            }
            left -= ways;
        }
        return left;
    }

    private static int lowered(int high, int way) {
        switch (way) {
            case 0:
                return 0;
            case 1:
                return high / 2;
            default:
                return high - 1;
        }
    }

    /** MADE, or how far the step lies behind the last swap. */
    private int makeSwap(int which) {
        int left = which;
        for (int i = 0; i + 1 < row.length(); i++) {
            int here = row.at(i, 0);
            int next = row.at(i + 1, 0);
            if (here > next) {
                if (left == 0) {
                    step.copyFrom(row);
                    step.set(i, next);
                    step.set(i + 1, here);
                    return MADE;
                }
                left--;
            }
        }
        return left;
    }

    private void addToRowsSum(Ints given) {
        for (int i = 0; i < given.length(); i++) {
            rowsSum = 31 * rowsSum + given.at(i, 0);
        }
        rowsSum = 31 * rowsSum + 7;
    }

    /** At most sixty ints, one behind the other; no call of it uses a place that isn't there. */
    private static final class Ints {
        private final int[] items = new int[MOST_IN_ROW];
        private int count;

        int length() {
            return count;
        }

        int at(int i, int otherwise) {
            return i >= 0 && i < count && i < items.length ? items[i] : otherwise;
        }

        void set(int i, int item) {
            if (i >= 0 && i < count && i < items.length) {
                items[i] = item;
            }
        }

        boolean add(int item) {
            if (count < 0 || count >= items.length) {
                return false;
            }
            items[count] = item;
            count++;
            return true;
        }

        void cutTo(int length) {
            count = Math.max(0, Math.min(count, length));
        }

        void copyFrom(Ints other) {
            copyWithout(other, 0, 0);
        }

        /** Becomes the other without n items from the place start on; the other is another object. */
        void copyWithout(Ints other, int start, int n) {
            count = 0;
            for (int i = 0; i < other.count; i++) {
                if (i < start || i >= start + n) {
                    add(other.at(i, 0));
                }
            }
        }

        long totalFrom(int start) {
            long total = 0;
            for (int i = start; i < count; i++) {
                total += at(i, 0);
            }
            return total;
        }

        void raiseFrom(int start, int by) {
            for (int i = start; i < count; i++) {
                set(i, at(i, 0) + by);
            }
        }

        boolean has(int item) {
            for (int i = 0; i < count; i++) {
                if (at(i, 0) == item) {
                    return true;
                }
            }
            return false;
        }

        boolean falls() {
            for (int i = 1; i < count; i++) {
                if (at(i, 0) < at(i - 1, 0)) {
                    return true;
                }
            }
            return false;
        }
    }

    /** One going through of a generator: where its choices come from, which it took, what it gave. */
    private static final class Draws {
        private static final int BY_ROW = 0;
        private static final int BY_SEED = 1;
        private static final int BY_TURN = 2;

        final Ints choices = new Ints();
        final Ints numbers = new Ints();
        boolean ill;

        /** For each choice taken, the greatest that it could have been. */
        private final int[] limits = new int[MOST_IN_ROW];
        private final Ints given = new Ints();
        private int how = BY_ROW;
        private long state;
        private int trySize;

        private void begin(int newHow) {
            how = newHow;
            choices.cutTo(0);
            numbers.cutTo(0);
            ill = false;
        }

        void beginRow(Ints newGiven) {
            given.copyFrom(newGiven);
            begin(BY_ROW);
        }

        void sow(long seed) {
            state = seed;
        }

        void beginTry(int newTrySize) {
            trySize = newTrySize;
            begin(BY_SEED);
        }

        void beginFirstTurn() {
            given.cutTo(0);
            begin(BY_TURN);
        }

        /** On to the next row in rising order: the last choice that can be one more is, and ends it. */
        boolean beginNextTurn() {
            for (int i = choices.length() - 1; i >= 0 && i < limits.length; i--) {
                int taken = choices.at(i, 0);
                if (taken < limits[i]) {
                    given.copyFrom(choices);
                    given.cutTo(i);
                    given.add(taken + 1);
                    begin(BY_TURN);
                    return true;
                }
            }
            return false;
        }

        /** A draw up to most; by a seed, of the first span choices alone. */
        int draw(int most, int span) {
            if (ill) {
                return 0;
            }
            int place = choices.length();
            // The sixty-first draw, too, moves the seed's state on before it makes this ill.
            int picked = pick(place, span);
            if (picked < 0 || picked > most || place >= limits.length || !choices.add(picked)) {
                ill = true;
                return 0;
            }
            limits[place] = most;
            return picked;
        }

        /** The tries begin with small numbers. */
        int sizedSpan(int most) {
            return most > trySize + 1 ? trySize + 2 : most + 1;
        }

        private int pick(int place, int span) {
            switch (how) {
                case BY_SEED:
                    state = state * 6364136223846793005L + 1442695040888963407L;
                    return span < 1 ? NONE : (int) ((state >>> 33) % span);
                case BY_TURN:
                    return given.at(place, 0);
                default:
                    return given.at(place, NONE);
            }
        }

        void giveNumber(int number) {
            if (ill || !numbers.add(number)) {
                ill = true;
            }
        }
    }

    private abstract static class Generator {
        final int deep;

        Generator(int deep) {
            this.deep = deep;
        }

        /** Goes no deeper than MOST_DEEP, beyond which no generator is made. */
        abstract void give(Draws draws);
    }

    private static final class IntRange extends Generator {
        private final int low;
        private final int high;

        IntRange(int low, int high) {
            super(1);
            this.low = low;
            this.high = high;
        }

        void give(Draws draws) {
            int most = high - low;
            draws.giveNumber(low + draws.draw(most, draws.sizedSpan(most)));
        }
    }

    private static final class ListOf extends Generator {
        private final Generator part;
        private final int most;

        ListOf(Generator part, int most) {
            super(part.deep + 1);
            this.part = part;
            this.most = most;
        }

        void give(Draws draws) {
            for (int made = 0; made < most && draws.draw(1, 2) == 1; made++) {
                part.give(draws);
            }
        }
    }

    private static final class PairOf extends Generator {
        private final Generator first;
        private final Generator second;

        PairOf(Generator first, Generator second) {
            super(Math.max(first.deep, second.deep) + 1);
            this.first = first;
            this.second = second;
        }

        void give(Draws draws) {
            first.give(draws);
            if (!draws.ill) {
                second.give(draws);
            }
        }
    }

    private static final class OneOf extends Generator {
        private final Generator first;
        private final Generator second;

        OneOf(Generator first, Generator second) {
            super(Math.max(first.deep, second.deep) + 1);
            this.first = first;
            this.second = second;
        }

        void give(Draws draws) {
            int side = draws.draw(1, 2);
            if (draws.ill) {
                return;
            }
            if (side == 0) {
                first.give(draws);
            } else {
                second.give(draws);
            }
        }
    }

    private static final class KeepOf extends Generator {
        private final Generator part;
        private final int parity;

        KeepOf(Generator part, int parity) {
            super(part.deep + 1);
            this.part = part;
            this.parity = parity;
        }

        void give(Draws draws) {
            int start = draws.numbers.length();
            for (int round = 0; round < KEEP_ROUNDS && !draws.ill; round++) {
                draws.numbers.cutTo(start);
                part.give(draws);
                if ((draws.numbers.totalFrom(start) & 1) == parity) {
                    return;
                }
            }
            draws.ill = true;
        }
    }

    private static final class AddTo extends Generator {
        private final Generator part;
        private final int more;

        AddTo(Generator part, int more) {
            super(part.deep + 1);
            this.part = part;
            this.more = more;
        }

        void give(Draws draws) {
            int start = draws.numbers.length();
            part.give(draws);
            draws.numbers.raiseFrom(start, more);
        }
    }

    private static final class Property {
        private final int kind;
        private final int k;
        private final int fewest;

        Property(int kind, int k, int fewest) {
            this.kind = kind;
            this.k = k;
            this.fewest = fewest;
        }

        int judge(Ints given) {
            if (given.length() < fewest) {
                return DISCARDED;
            }
            switch (kind) {
                case SUM_ABOVE:
                    return given.totalFrom(0) > k ? FAILS : PASSES;
                case ONE_IS:
                    return given.has(k) ? FAILS : PASSES;
                case ONE_FALLS:
                    return given.falls() ? FAILS : PASSES;
                case SO_MANY:
                    return given.length() >= k ? FAILS : PASSES;
                default:
                    return given.has(k) ? THROWN : PASSES;
            }
        }
    }

    /** A row that was found by a seed; they hang together, the latest first. */
    private static final class Kept {
        final int generator;
        final int property;
        final Ints choices = new Ints();
        final Kept earlier;

        Kept(int generator, int property, Ints found, Kept earlier) {
            this.generator = generator;
            this.property = property;
            this.earlier = earlier;
            this.choices.copyFrom(found);
        }
    }
}
