/** Made-up runs of at most 512 calls, where the program and the Reference must answer the same. */
public final class RandomRunsTest {
    private static final int RUNS = 4000;
    // One line more, the crossings and the look at the whole table are still within 512 calls.
    private static final int CALLS = 300;
    private static final int LINES = 60000;
    private static final String[] NAMES = {
        "a", "b", "ab", "abc", "abcd", "abcde", "x", "7", "007", "123456789", "1234567890", "0", "-1", "a.b", "~!", "17x"
    };
    private static final String[] NUMBERS = {
        "0", "1", "-1", "2", "0.5", "-0.5", "0.01", "-0.01", "0.04", "12", "12.3", "3.14", "999.99", "-999.99", "99", "-0"
    };
    private static final String NOISE = "||: .-019ax~";
    private static final char[] LETTERS = {'a', 'b', ' ', 'x', '7', '1', '0', '-', '~', ':', '|', 31, 127, 'a', 'b', ' '};

    private static long state = 20261115L;

    private static int pick(int bound) {
        state = state * 6364136223846793005L + 1442695040888963407L;
        return (int) ((state >>> 33) % bound);
    }

    private static String part() {
        String name = NAMES[pick(NAMES.length)];
        return pick(2) == 0 ? name : name + ":" + NUMBERS[pick(NUMBERS.length)];
    }

    private static String lineText() {
        StringBuilder text = new StringBuilder();
        if (pick(4) > 0) {
            text.append(NUMBERS[pick(NUMBERS.length)]);
            text.append(pick(3) == 0 ? " " + (1 + pick(5)) : "");
            text.append(pick(2) == 0 ? " " : "");
        }
        int namespaces = 1 + pick(pick(6) == 0 ? 5 : 3);
        for (int n = 0; n < namespaces; n++) {
            text.append('|').append(pick(4) > 0 ? part() : "");
            int features = pick(pick(12) == 0 ? 14 : 5);
            for (int f = 0; f < features; f++) {
                text.append(pick(9) == 0 ? "  " : " ").append(part());
            }
        }
        for (int n = pick(6) - 4; n >= 0; n--) {
            int at = pick(text.length() + 1);
            text.insert(at, NOISE.charAt(pick(NOISE.length())));
        }
        // A few characters too many for a line, but so few that the run stays under 512 calls.
        return text.substring(0, Math.min(text.length(), 104));
    }

    private static int typeLine(String run, HashedLearner x, Reference r) {
        String text = lineText();
        for (int k = 0; k < text.length(); k++) {
            Check.due(run + "write", x.write(text.charAt(k)), r.write(text.charAt(k)));
        }
        Check.due(run + "line() of '" + text + "'", x.line(), r.line());
        return text.length() + 1;
    }

    private static int ask(String run, HashedLearner x, Reference r) {
        int k = pick(40) - 3;
        switch (pick(24)) {
            case 0 -> Check.due(run + "peek()", x.peek(), r.peek());
            case 1, 2 -> Check.due(run + "pass()", x.pass(), r.pass());
            case 3 -> Check.due(run + "waiting()", x.waiting(), r.waiting());
            case 4 -> Check.due(run + "terms()", x.terms(), r.terms());
            case 5 -> Check.due(run + "index(" + k + ")", x.index(k), r.index(k));
            case 6 -> Check.due(run + "value(" + k + ")", x.value(k), r.value(k));
            case 7 -> Check.due(run + "hash(" + k + ")", x.hash(k), r.hash(k));
            case 8 -> Check.due(run + "weight(" + k + ")", x.weight(k), r.weight(k));
            case 9 -> Check.due(run + "sum(" + k + ")", x.sum(k), r.sum(k));
            case 10 -> Check.due(run + "scale(" + k + ")", x.scale(k), r.scale(k));
            case 11 -> Check.due(run + "save", x.save(k % 3), r.save(k % 3));
            case 12 -> Check.due(run + "load", x.load(k % 3), r.load(k % 3));
            case 13 -> Check.due(run + "loss()", x.loss(), r.loss());
            case 14 -> Check.due(run + "report", x.report(k % 6), r.report(k % 6));
            case 15 -> Check.due(run + "warnings()", x.warnings(), r.warnings());
            case 16 -> cross(run, x, r);
            case 17, 18, 19, 20 -> Check.due(run + "learn()", x.learn(), r.learn());
            default -> {
                return typeLine(run, x, r);
            }
        }
        return 1;
    }

    private static void cross(String run, HashedLearner x, Reference r) {
        char a = LETTERS[pick(LETTERS.length)];
        char b = LETTERS[pick(LETTERS.length)];
        Check.due(run + "cross(" + (int) a + ", " + (int) b + ")", x.cross(a, b), r.cross(a, b));
    }

    private static void compareTables(String run, HashedLearner x, Reference r) {
        for (int i = 0; i < 32; i++) {
            Check.slot(run + "the end", x, i, r.weight(i), r.sum(i), r.scale(i));
        }
    }

    /** Short lines of few characters, most of them malformed, many of them nearly well formed. */
    private static void compareLines() {
        for (int n = 0; n < LINES; n++) {
            HashedLearner x = new HashedLearner(4, 0, 0);
            Reference r = new Reference(4, 0, 0);
            StringBuilder text = new StringBuilder();
            for (int length = pick(12); length > 0; length--) {
                char c = NOISE.charAt(pick(NOISE.length()));
                text.append(c);
                x.write(c);
                r.write(c);
            }
            String line = "'" + text + "': ";
            Check.due(line + "line()", x.line(), r.line());
            Check.due(line + "hash(0)", x.hash(0), r.hash(0));
            Check.due(line + "value(0)", x.value(0), r.value(0));
            Check.due(line + "learn()", x.learn(), r.learn());
            Check.slot(line, x, 12, r.weight(12), r.sum(12), r.scale(12));
        }
    }

    private static void compareRuns() {
        for (int n = 0; n < RUNS; n++) {
            int bits = 2 + pick(5);
            int loss = pick(4);
            int rule = pick(2);
            String run = "run " + n + " of (" + bits + ", " + loss + ", " + rule + "): ";
            HashedLearner x = new HashedLearner(bits, loss, rule);
            Reference r = new Reference(bits, loss, rule);
            for (int k = pick(4); k > 0; k--) {
                cross(run, x, r);
            }
            for (int calls = 0; calls < CALLS; ) {
                calls += ask(run, x, r);
            }
            compareTables(run, x, r);
        }
    }

    public static void main(String[] args) {
        compareLines();
        compareRuns();
        Check.end();
    }
}
