/** An online learner over lines of text; README.md says how it is used. */
public final class HashedLearner {
    public static final int NONE = -2147483648;

    private static final int MAX_LINE = 100;
    private static final int MAX_NAMESPACES = 4;
    private static final int MAX_FEATURES = 12;
    private static final int MAX_CROSSINGS = 3;
    // A letter crossed with itself has the most pairs: 12 * 13 / 2.
    private static final int MAX_TERMS = MAX_FEATURES + MAX_CROSSINGS * 78 + 1;
    private static final int MAX_WAITING = 4;
    private static final int MAX_STORED = 16;
    private static final int MODELS = 2;
    // An int counts the examples, so there are no more powers of two to reach.
    private static final int MAX_REPORTS = 31;

    private static final char BAR = '|';
    private static final char COLON = ':';
    private static final char SPACE = ' ';

    private static final int WHOLE = 100;
    private static final int MAX_VALUE = 99999;
    private static final int MAX_PREDICTION = 1000000;
    private static final int MAX_GRADIENT = 100000;
    private static final long MAX_WEIGHT = 100000000L;
    private static final long MAX_SUM = 10000000000000000L;
    private static final long MAX_SCALE = 1000000000000L;
    private static final int DEAD_ZONE = 10;
    private static final int CROSSING_FACTOR = 16777619;
    private static final int CONSTANT_HASH = 11650396;

    private final Line typed = new Line();
    private final Crossings crossings = new Crossings();
    private final Example[] ring = new Example[MAX_WAITING];
    private int oldest = 0;
    private int held = 0;
    private final Example[] store = new Example[MAX_STORED];
    private int stored = 0;
    private final Terms expanded = new Terms();
    private final Loss lossFunction;
    private final Tally tally = new Tally();
    private final Table table;
    private final Table[] models = new Table[MODELS];
    private final boolean[] saved = new boolean[MODELS];
    private int warningCount = 0;

    public HashedLearner(int bits, int loss, int rule) {
        int slots = 1 << (bits >= 3 && bits <= 5 ? bits : 4);
        int ownRule = rule == 1 ? 1 : 0;
        lossFunction = new Loss(loss >= 0 && loss <= 2 ? loss : 0);
        table = new Table(slots, ownRule);
        for (int k = 0; k < MODELS; k++) {
            models[k] = new Table(slots, ownRule);
        }
        for (int k = 0; k < MAX_WAITING; k++) {
            ring[k] = new Example();
        }
        for (int k = 0; k < MAX_STORED; k++) {
            store[k] = new Example();
        }
    }

    public boolean write(char c) {
        return typed.append(c);
    }

    public boolean cross(char a, char b) {
        return crossings.add(a, b);
    }

    public int line() {
        if (held >= MAX_WAITING) {
            return -2;
        }
        Example free = ring[(oldest + held) % MAX_WAITING];
        boolean wellFormed = typed.readInto(free);
        typed.clear();
        if (!wellFormed) {
            warningCount++;
            return -1;
        }
        held++;
        crossings.close();
        return free.features;
    }

    public int learn() {
        if (held == 0) {
            return NONE;
        }
        Example example = ring[oldest];
        int prediction = predictionFor(example);
        if (example.labelled) {
            tally.count(lossFunction.costOf(prediction, example.label), example.importance);
            teach(example);
            keepOldest();
        }
        oldest = (oldest + 1) % MAX_WAITING;
        held--;
        return prediction;
    }

    public int peek() {
        return held == 0 ? NONE : predictionFor(ring[oldest]);
    }

    public int pass() {
        for (int k = 0; k < stored; k++) {
            teach(store[k]);
        }
        return stored;
    }

    public int waiting() {
        return held;
    }

    public int terms() {
        if (held == 0) {
            return -1;
        }
        expanded.expand(ring[oldest], crossings);
        return expanded.count;
    }

    public int index(int k) {
        return hasTerm(k) ? table.slotOf(expanded.hashes[k]) : -1;
    }

    public int value(int k) {
        return hasTerm(k) ? expanded.values[k] : 0;
    }

    public int hash(int k) {
        if (held == 0 || k < 0 || k >= ring[oldest].features) {
            return 0;
        }
        return ring[oldest].hashes[k];
    }

    public int weight(int i) {
        return table.has(i) ? table.weights[i] : 0;
    }

    public long sum(int i) {
        return table.has(i) ? table.sums[i] : 0;
    }

    public long scale(int i) {
        return table.has(i) ? table.scales[i] : 0;
    }

    public boolean save(int k) {
        if (k < 0 || k >= MODELS) {
            return false;
        }
        models[k].copyFrom(table);
        saved[k] = true;
        return true;
    }

    public boolean load(int k) {
        if (k < 0 || k >= MODELS || !saved[k]) {
            return false;
        }
        table.copyFrom(models[k]);
        return true;
    }

    public long loss() {
        return tally.total;
    }

    public long report(int k) {
        if (k == -1) {
            return tally.reportCount;
        }
        return k >= 0 && k < tally.reportCount ? tally.reports[k] : -1;
    }

    public int warnings() {
        return warningCount;
    }

    private boolean hasTerm(int k) {
        return k >= 0 && k < terms();
    }

    private int predictionFor(Example example) {
        expanded.expand(example, crossings);
        return table.predict(expanded);
    }

    private void teach(Example example) {
        expanded.expand(example, crossings);
        for (int n = 0; n < example.importance; n++) {
            int prediction = table.predict(expanded);
            table.moveAll(expanded, lossFunction.gradientOf(prediction, example.label));
        }
    }

    // The store's blank example takes the place in the ring, so that nothing is copied or made.
    private void keepOldest() {
        if (stored < MAX_STORED) {
            Example blank = store[stored];
            store[stored] = ring[oldest];
            ring[oldest] = blank;
            stored++;
        }
    }

    private static long clip(long v, long m) {
        return v < -m ? -m : Math.min(v, m);
    }

    // 27 bits are enough: no sum is over 10^16.
    private static long root(long v) {
        long r = 0;
        for (int bit = 26; bit >= 0; bit--) {
            long next = r + (1L << bit);
            if (next * next <= v) {
                r = next;
            }
        }
        return r;
    }

    private static boolean isTypeable(char c) {
        return c >= 32 && c <= 126;
    }

    private static boolean areDigits(char[] text, int from, int to, int most) {
        if (from >= to || to - from > most) {
            return false;
        }
        for (int at = from; at < to; at++) {
            if (text[at] < '0' || text[at] > '9') {
                return false;
            }
        }
        return true;
    }

    private static int digitsToInt(char[] text, int from, int to) {
        int number = 0;
        for (int at = from; at < to; at++) {
            number = number * 10 + (text[at] - '0');
        }
        return number;
    }

    /** What a line of the right form says. */
    private static final class Example {
        final int[] hashes = new int[MAX_FEATURES];
        final int[] values = new int[MAX_FEATURES];
        final char[] letters = new char[MAX_FEATURES];
        int features = 0;
        boolean labelled = false;
        int label = 0;
        int importance = 1;

        boolean addFeature(char letter, int nameHash, int amount) {
            if (features >= MAX_FEATURES) {
                return false;
            }
            letters[features] = letter;
            hashes[features] = nameHash;
            values[features] = amount;
            features++;
            return true;
        }
    }

    /** The line that is being typed, and the reading of it. */
    private static final class Line {
        private final char[] text = new char[MAX_LINE];
        private int length = 0;
        // Of the part that was read last: where its name ends, and the number behind it.
        private int nameEnd = 0;
        private int partNumber = WHOLE;
        // Of the namespace that is being read.
        private char letter = SPACE;
        private int seed = 0;
        private int factor = WHOLE;

        boolean append(char c) {
            if (!isTypeable(c) || length >= MAX_LINE) {
                return false;
            }
            text[length] = c;
            length++;
            return true;
        }

        void clear() {
            length = 0;
        }

        boolean readInto(Example example) {
            int bar = find(BAR, 0, length);
            if (!readHead(bar, example)) {
                return false;
            }
            example.features = 0;
            int namespaces = 0;
            while (bar < length && namespaces < MAX_NAMESPACES) {
                int end = find(BAR, bar + 1, length);
                if (!readNamespace(bar + 1, end, example)) {
                    return false;
                }
                namespaces++;
                bar = end;
            }
            return namespaces > 0 && bar == length;
        }

        private boolean readHead(int to, Example example) {
            int start = skipSpaces(0, to);
            example.labelled = start < to;
            example.label = 0;
            example.importance = 1;
            if (!example.labelled) {
                return true;
            }
            int end = find(SPACE, start, to);
            example.label = readNumber(start, end);
            int second = skipSpaces(end, to);
            return example.label != NONE && (second == to || readImportance(second, to, example));
        }

        private boolean readImportance(int start, int to, Example example) {
            example.importance = text[start] - '0';
            return example.importance >= 1 && example.importance <= 5 && skipSpaces(start + 1, to) == to;
        }

        private boolean readNamespace(int from, int to, Example example) {
            int titleEnd = find(SPACE, from, to);
            if (!readTitle(from, titleEnd)) {
                return false;
            }
            int at = skipSpaces(titleEnd, to);
            for (int n = 0; n < MAX_FEATURES && at < to; n++) {
                int end = find(SPACE, at, to);
                if (!readFeature(at, end, example)) {
                    return false;
                }
                at = skipSpaces(end, to);
            }
            return at == to;
        }

        private boolean readTitle(int from, int to) {
            letter = SPACE;
            seed = 0;
            factor = WHOLE;
            if (from == to) {
                return true;
            }
            if (!readPart(from, to)) {
                return false;
            }
            letter = text[from];
            seed = NameHash.of(text, from, nameEnd, 0);
            factor = partNumber;
            return true;
        }

        private boolean readFeature(int from, int to, Example example) {
            if (!readPart(from, to)) {
                return false;
            }
            long amount = clip((long) partNumber * factor / WHOLE, MAX_VALUE);
            return example.addFeature(letter, NameHash.of(text, from, nameEnd, seed), (int) amount);
        }

        private boolean readPart(int from, int to) {
            nameEnd = find(COLON, from, to);
            partNumber = nameEnd < to ? readNumber(nameEnd + 1, to) : WHOLE;
            return nameEnd > from && partNumber != NONE;
        }

        // NONE, far outside of what three digits can write, stands for a text that is no number.
        private int readNumber(int from, int to) {
            boolean negative = from < to && text[from] == '-';
            int start = negative ? from + 1 : from;
            int point = find('.', start, to);
            if (!areDigits(text, start, point, 3)) {
                return NONE;
            }
            int hundredths = WHOLE * digitsToInt(text, start, point);
            if (point < to) {
                if (!areDigits(text, point + 1, to, 2)) {
                    return NONE;
                }
                int decimals = digitsToInt(text, point + 1, to);
                hundredths += to - point == 2 ? 10 * decimals : decimals;
            }
            return negative ? -hundredths : hundredths;
        }

        private int find(char c, int from, int to) {
            int at = from;
            while (at < to && text[at] != c) {
                at++;
            }
            return at;
        }

        private int skipSpaces(int from, int to) {
            int at = from;
            while (at < to && text[at] == SPACE) {
                at++;
            }
            return at;
        }
    }

    /** The hash of a name that stands in a text. */
    private static final class NameHash {
        static int of(char[] text, int from, int to, int seed) {
            if (areDigits(text, from, to, 9)) {
                return digitsToInt(text, from, to) + seed;
            }
            int h = seed;
            int at = from;
            while (at + 4 <= to) {
                h ^= mixed(block(text, at, 4));
                h = roll(h, 13) * 5 + 0xe6546b64;
                at += 4;
            }
            if (at < to) {
                h ^= mixed(block(text, at, to - at));
            }
            return finished(h ^ (to - from));
        }

        private static int block(char[] text, int from, int count) {
            int k = 0;
            for (int n = count - 1; n >= 0; n--) {
                k = k * 256 + text[from + n];
            }
            return k;
        }

        private static int mixed(int block) {
            return roll(block * 0xcc9e2d51, 15) * 0x1b873593;
        }

        private static int finished(int start) {
            int h = start;
            h ^= h >>> 16;
            h *= 0x85ebca6b;
            h ^= h >>> 13;
            h *= 0xc2b2ae35;
            return h ^ (h >>> 16);
        }

        private static int roll(int v, int r) {
            return (v << r) | (v >>> (32 - r));
        }
    }

    /** The pairs of letters that are crossed; closed as soon as an example counts on them. */
    private static final class Crossings {
        final char[] lefts = new char[MAX_CROSSINGS];
        final char[] rights = new char[MAX_CROSSINGS];
        int count = 0;
        private boolean closed = false;

        boolean add(char a, char b) {
            if (closed || count >= MAX_CROSSINGS || !isLetter(a) || !isLetter(b) || contains(a, b)) {
                return false;
            }
            lefts[count] = a;
            rights[count] = b;
            count++;
            return true;
        }

        void close() {
            closed = true;
        }

        private boolean contains(char a, char b) {
            for (int k = 0; k < count; k++) {
                if (lefts[k] == a && rights[k] == b) {
                    return true;
                }
            }
            return false;
        }

        private static boolean isLetter(char c) {
            return isTypeable(c) && c != COLON && c != BAR;
        }
    }

    /** The terms of one example at a time: worked out anew for each use, so that examples stay small. */
    private static final class Terms {
        final int[] hashes = new int[MAX_TERMS];
        final int[] values = new int[MAX_TERMS];
        int count = 0;

        void expand(Example example, Crossings crossings) {
            count = 0;
            for (int f = 0; f < example.features; f++) {
                add(example.hashes[f], example.values[f]);
            }
            for (int k = 0; k < crossings.count; k++) {
                addCrossing(example, crossings.lefts[k], crossings.rights[k]);
            }
            add(CONSTANT_HASH, WHOLE);
        }

        private void addCrossing(Example example, char left, char right) {
            for (int f = 0; f < example.features; f++) {
                if (example.letters[f] == left) {
                    addPairs(example, f, right);
                }
            }
        }

        private void addPairs(Example example, int f, char right) {
            int first = example.letters[f] == right ? f : 0;
            for (int g = first; g < example.features; g++) {
                if (example.letters[g] == right) {
                    long product = (long) example.values[f] * example.values[g] / WHOLE;
                    add((example.hashes[f] * CROSSING_FACTOR) ^ example.hashes[g], (int) clip(product, MAX_VALUE));
                }
            }
        }

        private void add(int termHash, int termValue) {
            if (count < MAX_TERMS) {
                hashes[count] = termHash;
                values[count] = termValue;
                count++;
            }
        }
    }

    /** How wrong a prediction is, and which way. */
    private static final class Loss {
        private static final int HINGE = 1;
        private static final int QUANTILE = 2;

        private final int kind;

        Loss(int kind) {
            this.kind = kind;
        }

        int gradientOf(int prediction, int label) {
            if (kind == HINGE) {
                int side = sideOf(label);
                return side * prediction >= 100 ? 0 : -100 * side;
            }
            int over = prediction - label;
            if (kind == QUANTILE) {
                return over > 0 ? 75 : over < 0 ? -25 : 0;
            }
            return (int) clip(over, MAX_GRADIENT);
        }

        long costOf(int prediction, int label) {
            if (kind == HINGE) {
                return Math.max(0, 100 - sideOf(label) * prediction);
            }
            long over = (long) prediction - label;
            if (kind == QUANTILE) {
                return over > 0 ? 75 * over / 100 : 25 * -over / 100;
            }
            return over * over / 100;
        }

        private static int sideOf(int label) {
            return label >= 0 ? 1 : -1;
        }
    }

    /** The slots, and the rules by which an example moves them. */
    private static final class Table {
        final int[] weights;
        final long[] sums;
        final long[] scales;
        private final int rule;

        Table(int slots, int rule) {
            weights = new int[slots];
            sums = new long[slots];
            scales = new long[slots];
            this.rule = rule;
        }

        boolean has(int i) {
            return i >= 0 && i < weights.length;
        }

        // The number of slots is a power of two, so this is a slot for every hash.
        int slotOf(int termHash) {
            return termHash & (weights.length - 1);
        }

        void copyFrom(Table other) {
            System.arraycopy(other.weights, 0, weights, 0, weights.length);
            System.arraycopy(other.sums, 0, sums, 0, sums.length);
            System.arraycopy(other.scales, 0, scales, 0, scales.length);
        }

        int predict(Terms terms) {
            long total = 0;
            for (int k = 0; k < terms.count; k++) {
                total += (long) weights[slotOf(terms.hashes[k])] * terms.values[k];
            }
            return (int) clip(total / 10000, MAX_PREDICTION);
        }

        void moveAll(Terms terms, int gradient) {
            for (int k = 0; k < terms.count; k++) {
                int x = terms.values[k];
                long d = (long) gradient * x / 100;
                if (rule == 1) {
                    moveByRule1(slotOf(terms.hashes[k]), d);
                } else {
                    moveByRule0(slotOf(terms.hashes[k]), x, d);
                }
            }
        }

        private void moveByRule0(int i, int x, long d) {
            // A value of 0 is never over the scale, so it moves nothing; from here on no divisor is 0.
            if (x == 0) {
                return;
            }
            long m = Math.abs(x);
            if (m > scales[i]) {
                weights[i] = (int) (weights[i] * scales[i] / m);
                scales[i] = m;
            }
            sums[i] = clip(sums[i] + d * d, MAX_SUM);
            long step = 500000 * d / ((1 + root(sums[i])) * scales[i]);
            weights[i] = (int) clip(weights[i] - step, MAX_WEIGHT);
        }

        private void moveByRule1(int i, long d) {
            long rootBefore = root(sums[i]);
            sums[i] = clip(sums[i] + d * d, MAX_SUM);
            long rootAfter = root(sums[i]);
            long pull = (rootAfter - rootBefore) * weights[i] / 5000;
            scales[i] = clip(scales[i] + d - pull, MAX_SCALE);
            if (Math.abs(scales[i]) <= DEAD_ZONE) {
                weights[i] = 0;
            } else {
                long z = scales[i] > 0 ? scales[i] - DEAD_ZONE : scales[i] + DEAD_ZONE;
                weights[i] = (int) clip(-5000 * z / (100 + rootAfter), MAX_WEIGHT);
            }
        }
    }

    /** The costs so far, and the reports on them. */
    private static final class Tally {
        final long[] reports = new long[MAX_REPORTS];
        int reportCount = 0;
        long total = 0;
        private int examples = 0;
        private long costs = 0;
        private long importances = 0;

        void count(long cost, int importance) {
            total += cost * importance;
            costs += cost * importance;
            importances += importance;
            examples++;
            if (isPowerOfTwo(examples) && reportCount < MAX_REPORTS) {
                addReport();
            }
        }

        private void addReport() {
            reports[reportCount] = importances > 0 ? costs / importances : 0;
            reportCount++;
            costs = 0;
            importances = 0;
        }

        private static boolean isPowerOfTwo(int n) {
            return n > 0 && (n & (n - 1)) == 0;
        }
    }
}
