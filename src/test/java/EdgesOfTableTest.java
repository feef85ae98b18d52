/** The document's sentences on a new object, the table and the models that name an edge, each with a test of its own. */
public final class EdgesOfTableTest {
    private static final int[] FAR = {Integer.MIN_VALUE, -65536, -32, -16, -8, -2, -1, 64, 256, 65536, Integer.MAX_VALUE};

    private static void bits() {
        Check.sentence("BITS is bits if that is 3 .. 5, else 4");
        int[] bits = {3, 4, 5, 2, 6, 1, 0, -1, -3, -4, 7, 35, 36, 256 + 5, Integer.MIN_VALUE, Integer.MAX_VALUE};
        for (int b : bits) {
            int due = b == 3 ? 7 : b == 5 ? 31 : 15;
            HashedLearner x = new HashedLearner(b, 0, 0);
            Check.read(x, "1| 31");
            Check.due("bits " + b + ": index(0)", x.index(0), due);
            x.learn();
            Check.slot("bits " + b + ": the last slot", x, due, 4950, 10000, 100);
            Check.slot("bits " + b + ": behind it", x, due + 1, 0, 0, 0);
        }
    }

    private static void losses() {
        Check.sentence("the loss is loss if that is 0 .. 2, else 0");
        int[] losses = {0, 1, 2, 3, 4, -1, -2, 256 + 1, Integer.MIN_VALUE, Integer.MAX_VALUE};
        for (int loss : losses) {
            HashedLearner x = new HashedLearner(4, loss, 0);
            Check.learn(x, "3|");
            Check.due("loss " + loss + ": loss()", x.loss(), loss == 1 ? 100 : loss == 2 ? 75 : 900);
            Check.due("loss " + loss + ": sum(12)", x.sum(12), loss == 1 ? 10000 : loss == 2 ? 625 : 90000);
        }
    }

    private static void rules() {
        Check.sentence("the rule is rule if that is 0 or 1, else 0");
        for (int rule : new int[] {0, 1, 2, 3, -1, 256 + 1, Integer.MIN_VALUE, Integer.MAX_VALUE}) {
            HashedLearner x = new HashedLearner(4, 0, rule);
            Check.learn(x, "1|");
            Check.slot("rule " + rule, x, 12, rule == 1 ? 2250 : 4950, 10000, rule == 1 ? -100 : 100);
        }
    }

    private static void emptyAtFirst() {
        Check.sentence("An empty line, ring and store; no crossings, models and reports");
        for (int rule = 0; rule < 2; rule++) {
            HashedLearner x = new HashedLearner(5, 0, rule);
            Check.due("waiting()", x.waiting(), 0);
            Check.due("peek()", x.peek(), HashedLearner.NONE);
            Check.due("pass()", x.pass(), 0);
            Check.due("load(0)", x.load(0), false);
            Check.due("load(1)", x.load(1), false);
            Check.due("report(-1)", x.report(-1), 0);
            Check.due("report(0)", x.report(0), -1);
            Check.due("line() of the empty line", x.line(), -1);
            Check.due("cross, the first", x.cross('a', 'b'), true);
            Check.due("cross, the second", x.cross('b', 'a'), true);
            Check.due("cross, the third", x.cross('a', 'a'), true);
            Check.type(x, "|" + "t".repeat(99));
            Check.due("write of the 101st character", x.write('t'), false);
        }
        HashedLearner x = new HashedLearner(5, 0, 0);
        Check.read(x, "|a 1|b 2| 3");
        Check.due("terms() without crossings", x.terms(), 4);
    }

    private static void zeroAtFirst() {
        Check.sentence("The TABLE has 2^BITS SLOTS, each with a WEIGHT, a SUM and a SCALE, all 0 at first");
        for (int bits = 3; bits <= 5; bits++) {
            HashedLearner x = new HashedLearner(bits, 0, 0);
            for (int i = 0; i < 1 << bits; i++) {
                Check.slot("a new table", x, i, 0, 0, 0);
            }
            Check.learn(x, "1| 0 1 2 3 5 6 7");
            for (int i = 0; i < 8; i++) {
                Check.due("each slot has its own weight: " + i, x.weight(i) != 0, i != 4 || bits == 3);
            }
        }
    }

    private static void slotOfNone(String promise) {
        Check.sentence(promise + " of slot i; 0 if there is none");
        for (int bits = 3; bits <= 5; bits++) {
            int size = 1 << bits;
            HashedLearner x = new HashedLearner(bits, 0, 0);
            Check.learn(x, "1| 0 " + (size - 1));
            ask(promise, x, 0, true);
            ask(promise, x, size - 1, true);
            ask(promise, x, -1, false);
            ask(promise, x, size, false);
            ask(promise, x, size + 1, false);
            ask(promise, x, 2 * size, false);
            ask(promise, x, 2 * size - 1, false);
            for (int i : FAR) {
                ask(promise, x, i, false);
            }
        }
    }

    private static void ask(String promise, HashedLearner x, int i, boolean learned) {
        switch (promise) {
            case "weight" -> Check.due("weight(" + i + ")", x.weight(i), learned ? 4950 : 0);
            case "sum" -> Check.due("sum(" + i + ")", x.sum(i), learned ? 10000 : 0);
            default -> Check.due("scale(" + i + ")", x.scale(i), learned ? 100 : 0);
        }
    }

    private static void saveOfNone() {
        Check.sentence("save: Model k becomes a copy of the table; false if k is not 0 or 1");
        HashedLearner x = new HashedLearner(4, 0, 0);
        for (int k : FAR) {
            Check.due("save(" + k + ")", x.save(k), false);
        }
        Check.due("save(2)", x.save(2), false);
        Check.due("load(0): nothing was saved", x.load(0), false);
        Check.due("load(1): nothing was saved", x.load(1), false);
        Check.due("save(0)", x.save(0), true);
        Check.learn(x, "1|");
        Check.due("save(1)", x.save(1), true);
        Check.learn(x, "5|");
        Check.due("save(2)", x.save(2), false);
        Check.due("save(-1)", x.save(-1), false);
        Check.due("load(0)", x.load(0), true);
        Check.slot("model 0 stays", x, 12, 0, 0, 0);
        Check.due("load(1)", x.load(1), true);
        Check.slot("model 1 stays", x, 12, 4950, 10000, 100);
    }

    private static void wholeTable() {
        Check.sentence("A MODEL, 0 or 1, is a copy of the whole table");
        for (int bits = 3; bits <= 5; bits++) {
            HashedLearner x = new HashedLearner(bits, 0, 0);
            int last = (1 << bits) - 1;
            Check.learn(x, "1| 0 " + last);
            x.save(1);
            Check.learn(x, "-5| 0:7 1:7 " + (last - 1) + ":7 " + last + ":7");
            Check.due("load(1)", x.load(1), true);
            for (int i = 0; i <= last; i++) {
                boolean learned = i == 0 || i == last || i == 11650396 % (last + 1);
                Check.slot("bits " + bits, x, i, learned ? 4950 : 0, learned ? 10000 : 0, learned ? 100 : 0);
            }
        }
    }

    private static void loadOfNone() {
        Check.sentence("load: false if k is not 0 or 1, or that was never saved");
        for (int k = 0; k < 2; k++) {
            HashedLearner x = new HashedLearner(4, 0, 0);
            Check.learn(x, "1|");
            Check.due("load(" + k + ")", x.load(k), false);
            Check.due("save of the other", x.save(1 - k), true);
            Check.learn(x, "1|");
            Check.due("load(" + k + ")", x.load(k), false);
            for (int wrong : FAR) {
                Check.due("load(" + wrong + ")", x.load(wrong), false);
            }
            Check.due("load(2)", x.load(2), false);
            Check.slot("a refused load changes nothing", x, 12, 7206, 12601, 100);
            Check.due("load of the other", x.load(1 - k), true);
            Check.slot("the other", x, 12, 4950, 10000, 100);
        }
    }

    private static void modelStays() {
        Check.sentence("load: The table (nothing else; the model stays) becomes a copy of model k");
        HashedLearner x = new HashedLearner(4, 0, 0);
        x.save(0);
        Check.learn(x, "1|");
        x.save(1);
        for (int n = 0; n < 3; n++) {
            Check.due("load(0)", x.load(0), true);
            Check.slot("model 0", x, 12, 0, 0, 0);
            Check.learn(x, "7|");
            Check.due("load(1)", x.load(1), true);
            Check.slot("model 1", x, 12, 4950, 10000, 100);
            Check.learn(x, "7|");
        }
    }

    private static void nothingElse() {
        Check.sentence("load: The table (nothing else) becomes a copy of model k");
        HashedLearner x = new HashedLearner(4, 0, 0);
        x.cross('a', 'b');
        x.save(0);
        Check.learn(x, "1 2|");
        Check.read(x, ":");
        Check.read(x, "2|a 1|b 2");
        Check.read(x, "| 3");
        Check.type(x, "| 4 ");
        Check.due("load(0)", x.load(0), true);
        Check.slot("the table", x, 12, 0, 0, 0);
        Check.due("loss()", x.loss(), 200);
        Check.due("report(-1)", x.report(-1), 1);
        Check.due("report(0)", x.report(0), 100);
        Check.due("warnings()", x.warnings(), 1);
        Check.due("waiting()", x.waiting(), 2);
        Check.due("terms(): the crossing stays", x.terms(), 4);
        Check.due("cross: a line was read", x.cross('b', 'b'), false);
        Check.due("line(): the line stays", Check.read(x, "5"), 2);
        Check.due("pass(): the store stays", x.pass(), 1);
        x.learn();
        Check.due("report(-1): the count of examples stays", x.report(-1), 2);
    }

    public static void main(String[] args) {
        bits();
        losses();
        rules();
        emptyAtFirst();
        zeroAtFirst();
        slotOfNone("weight");
        slotOfNone("sum");
        slotOfNone("scale");
        saveOfNone();
        wholeTable();
        loadOfNone();
        modelStays();
        nothingElse();
        Check.end();
    }
}
