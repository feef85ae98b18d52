import java.math.BigInteger;
import java.util.ArrayList;
import java.util.List;
import java.util.regex.Matcher;
import java.util.regex.Pattern;

/** The document read a second time, with other means than the program's: texts, patterns, lists and big numbers. */
final class Reference {
    private static final String NUMBER = "-?[0-9]{1,3}(?:\\.[0-9]{1,2})?";
    private static final Pattern HEAD = Pattern.compile(" *(?:(" + NUMBER + ")(?: +([1-5]))?)? *");
    private static final Pattern PART = Pattern.compile("([^: |]+)(?::(" + NUMBER + "))?");
    private static final BigInteger HUNDRED = BigInteger.valueOf(100);

    record Feature(char letter, int hash, int value) {
    }

    record Term(int hash, BigInteger value) {
    }

    record Example(List<Feature> features, Integer label, int importance) {
    }

    private record Slots(BigInteger[] weight, BigInteger[] sum, BigInteger[] scale) {
        Slots copy() {
            return new Slots(weight.clone(), sum.clone(), scale.clone());
        }
    }

    private final int size;
    private final int loss;
    private final int rule;
    private Slots table;
    private final Slots[] models = new Slots[2];
    private String text = "";
    private final List<String> crossings = new ArrayList<>();
    private final List<Example> ring = new ArrayList<>();
    private final List<Example> store = new ArrayList<>();
    private final List<Example> sinceReport = new ArrayList<>();
    private final List<Long> costsSinceReport = new ArrayList<>();
    private final List<Long> reports = new ArrayList<>();
    private boolean anyExample = false;
    private int labelledCount = 0;
    private long lossTotal = 0;
    private int warningCount = 0;

    Reference(int bits, int loss, int rule) {
        this.size = (int) Math.pow(2, List.of(3, 4, 5).contains(bits) ? bits : 4);
        this.loss = List.of(0, 1, 2).contains(loss) ? loss : 0;
        this.rule = List.of(0, 1).contains(rule) ? rule : 0;
        this.table = new Slots(zeros(), zeros(), zeros());
    }

    private BigInteger[] zeros() {
        BigInteger[] row = new BigInteger[size];
        java.util.Arrays.fill(row, BigInteger.ZERO);
        return row;
    }

    boolean write(char c) {
        if (c < 32 || c > 126 || text.length() == 100) {
            return false;
        }
        text += c;
        return true;
    }

    boolean cross(char a, char b) {
        String pair = "" + a + b;
        if (anyExample || crossings.size() == 3 || !pair.matches("[ -~&&[^:|]]{2}") || crossings.contains(pair)) {
            return false;
        }
        return crossings.add(pair);
    }

    int line() {
        if (ring.size() == 4) {
            return -2;
        }
        Example example = parse(text);
        text = "";
        if (example == null) {
            warningCount++;
            return -1;
        }
        anyExample = true;
        ring.add(example);
        return example.features().size();
    }

    int learn() {
        if (ring.isEmpty()) {
            return HashedLearner.NONE;
        }
        Example example = ring.remove(0);
        int p = predict(example);
        if (example.label() == null) {
            return p;
        }
        long part = cost(p, example.label()) * example.importance();
        lossTotal += part;
        sinceReport.add(example);
        costsSinceReport.add(part);
        labelledCount++;
        if (Integer.bitCount(labelledCount) == 1) {
            long costs = costsSinceReport.stream().mapToLong(Long::longValue).sum();
            reports.add(costs / sinceReport.stream().mapToLong(Example::importance).sum());
            sinceReport.clear();
            costsSinceReport.clear();
        }
        teach(example);
        if (store.size() < 16) {
            store.add(example);
        }
        return p;
    }

    int peek() {
        return ring.isEmpty() ? HashedLearner.NONE : predict(ring.get(0));
    }

    int pass() {
        store.forEach(this::teach);
        return store.size();
    }

    int waiting() {
        return ring.size();
    }

    int terms() {
        return ring.isEmpty() ? -1 : termsOf(ring.get(0)).size();
    }

    int index(int k) {
        return k >= 0 && k < terms() ? slot(termsOf(ring.get(0)).get(k)) : -1;
    }

    int value(int k) {
        return k >= 0 && k < terms() ? termsOf(ring.get(0)).get(k).value().intValueExact() : 0;
    }

    int hash(int k) {
        return !ring.isEmpty() && k >= 0 && k < ring.get(0).features().size() ? ring.get(0).features().get(k).hash() : 0;
    }

    int weight(int i) {
        return i >= 0 && i < size ? table.weight()[i].intValueExact() : 0;
    }

    long sum(int i) {
        return i >= 0 && i < size ? table.sum()[i].longValueExact() : 0;
    }

    long scale(int i) {
        return i >= 0 && i < size ? table.scale()[i].longValueExact() : 0;
    }

    boolean save(int k) {
        if (k != 0 && k != 1) {
            return false;
        }
        models[k] = table.copy();
        return true;
    }

    boolean load(int k) {
        if (k != 0 && k != 1 || models[k] == null) {
            return false;
        }
        table = models[k].copy();
        return true;
    }

    long loss() {
        return lossTotal;
    }

    long report(int k) {
        return k == -1 ? reports.size() : k >= 0 && k < reports.size() ? reports.get(k) : -1;
    }

    int warnings() {
        return warningCount;
    }

    private static Example parse(String line) {
        String[] pieces = line.split("\\|", -1);
        Matcher head = HEAD.matcher(pieces[0]);
        if (pieces.length < 2 || pieces.length > 5 || !head.matches()) {
            return null;
        }
        List<Feature> features = new ArrayList<>();
        for (int n = 1; n < pieces.length; n++) {
            if (!parseNamespace(pieces[n], features)) {
                return null;
            }
        }
        if (features.size() > 12) {
            return null;
        }
        Integer label = head.group(1) == null ? null : Integer.valueOf(hundredths(head.group(1)));
        return new Example(features, label, head.group(2) == null ? 1 : Integer.parseInt(head.group(2)));
    }

    private static boolean parseNamespace(String piece, List<Feature> features) {
        List<String> parts = new ArrayList<>(List.of(piece.split(" ")));
        parts.removeIf(String::isEmpty);
        char letter = ' ';
        int seed = 0;
        int scale = 100;
        boolean titled = !piece.isEmpty() && piece.charAt(0) != ' ';
        for (int n = 0; n < parts.size(); n++) {
            Matcher part = PART.matcher(parts.get(n));
            if (!part.matches()) {
                return false;
            }
            int number = part.group(2) == null ? 100 : hundredths(part.group(2));
            if (titled && n == 0) {
                letter = piece.charAt(0);
                seed = hashOf(part.group(1), 0);
                scale = number;
            } else {
                BigInteger product = BigInteger.valueOf(number).multiply(BigInteger.valueOf(scale)).divide(HUNDRED);
                features.add(new Feature(letter, hashOf(part.group(1), seed), clip(product, 99999).intValueExact()));
            }
        }
        return true;
    }

    private static int hundredths(String number) {
        return new java.math.BigDecimal(number).movePointRight(2).intValueExact();
    }

    static int hashOf(String name, int seed) {
        if (name.matches("[0-9]{1,9}")) {
            return Integer.parseInt(name) + seed;
        }
        byte[] codes = name.getBytes(java.nio.charset.StandardCharsets.US_ASCII);
        int h = seed;
        int k = 0;
        for (int n = 0; n < codes.length; n++) {
            k |= codes[n] << 8 * (n % 4);
            boolean whole = n % 4 == 3;
            if (whole || n == codes.length - 1) {
                h ^= Integer.rotateLeft(k * 0xcc9e2d51, 15) * 0x1b873593;
                k = 0;
            }
            if (whole) {
                h = Integer.rotateLeft(h, 13) * 5 + 0xe6546b64;
            }
        }
        h ^= codes.length;
        h = (h ^ h >>> 16) * 0x85ebca6b;
        h = (h ^ h >>> 13) * 0xc2b2ae35;
        return h ^ h >>> 16;
    }

    private List<Term> termsOf(Example example) {
        List<Term> terms = new ArrayList<>();
        for (Feature f : example.features()) {
            terms.add(new Term(f.hash(), BigInteger.valueOf(f.value())));
        }
        for (String pair : crossings) {
            for (int n = 0; n < example.features().size(); n++) {
                for (int m = 0; m < example.features().size(); m++) {
                    Feature f = example.features().get(n);
                    Feature g = example.features().get(m);
                    boolean twice = pair.charAt(0) == pair.charAt(1) && m < n;
                    if (f.letter() == pair.charAt(0) && g.letter() == pair.charAt(1) && !twice) {
                        BigInteger product = BigInteger.valueOf(f.value()).multiply(BigInteger.valueOf(g.value()));
                        terms.add(new Term(f.hash() * 16777619 ^ g.hash(), clip(product.divide(HUNDRED), 99999)));
                    }
                }
            }
        }
        terms.add(new Term(11650396, HUNDRED));
        return terms;
    }

    private int slot(Term term) {
        return Math.floorMod(term.hash(), size);
    }

    private int predict(Example example) {
        BigInteger total = BigInteger.ZERO;
        for (Term term : termsOf(example)) {
            total = total.add(table.weight()[slot(term)].multiply(term.value()));
        }
        return clip(total.divide(BigInteger.valueOf(10000)), 1000000).intValueExact();
    }

    private long cost(long p, long y) {
        long t = y >= 0 ? 1 : -1;
        return switch (loss) {
            case 0 -> (p - y) * (p - y) / 100;
            case 1 -> Math.max(100 - t * p, 0);
            default -> p > y ? 75 * (p - y) / 100 : 25 * (y - p) / 100;
        };
    }

    private BigInteger gradient(long p, long y) {
        long t = y >= 0 ? 1 : -1;
        return switch (loss) {
            case 0 -> clip(BigInteger.valueOf(p - y), 100000);
            case 1 -> BigInteger.valueOf(t * p >= 100 ? 0 : -100 * t);
            default -> BigInteger.valueOf(p > y ? 75 : p < y ? -25 : 0);
        };
    }

    private void teach(Example example) {
        for (int n = 0; n < example.importance(); n++) {
            BigInteger g = gradient(predict(example), example.label());
            for (Term term : termsOf(example)) {
                BigInteger d = g.multiply(term.value()).divide(HUNDRED);
                if (rule == 0) {
                    ruleZero(slot(term), term.value(), d);
                } else {
                    ruleOne(slot(term), d);
                }
            }
        }
    }

    private void ruleZero(int i, BigInteger x, BigInteger d) {
        BigInteger m = x.abs();
        if (m.compareTo(table.scale()[i]) > 0) {
            table.weight()[i] = table.weight()[i].multiply(table.scale()[i]).divide(m);
            table.scale()[i] = m;
        }
        if (x.signum() != 0) {
            table.sum()[i] = clip(table.sum()[i].add(d.multiply(d)), 10000000000000000L);
            BigInteger divisor = BigInteger.ONE.add(table.sum()[i].sqrt()).multiply(table.scale()[i]);
            BigInteger step = BigInteger.valueOf(500000).multiply(d).divide(divisor);
            table.weight()[i] = clip(table.weight()[i].subtract(step), 100000000L);
        }
    }

    private void ruleOne(int i, BigInteger d) {
        BigInteger s = table.sum()[i].sqrt();
        table.sum()[i] = clip(table.sum()[i].add(d.multiply(d)), 10000000000000000L);
        BigInteger root = table.sum()[i].sqrt();
        BigInteger pull = root.subtract(s).multiply(table.weight()[i]).divide(BigInteger.valueOf(5000));
        BigInteger scale = clip(table.scale()[i].add(d).subtract(pull), 1000000000000L);
        table.scale()[i] = scale;
        BigInteger z = scale.subtract(BigInteger.valueOf(10L * scale.signum()));
        table.weight()[i] = scale.abs().compareTo(BigInteger.TEN) <= 0 ? BigInteger.ZERO
            : clip(BigInteger.valueOf(-5000).multiply(z).divide(HUNDRED.add(root)), 100000000L);
    }

    private static BigInteger clip(BigInteger v, long m) {
        return v.max(BigInteger.valueOf(-m)).min(BigInteger.valueOf(m));
    }
}
