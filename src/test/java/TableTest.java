/** Promises 13 to 17: weight, sum, scale, save, load. */
public final class TableTest {
    private static final int[] WRONG_MODELS = {-1, 2, 3, Integer.MIN_VALUE, Integer.MAX_VALUE};

    private static void slots() {
        for (int bits = 3; bits <= 5; bits++) {
            int size = 1 << bits;
            HashedLearner x = new HashedLearner(bits, 0, 0);
            Check.learn(x, "1 | 0:2 " + (size - 1) + ":2 12345");
            Check.slot("the first slot", x, 0, 2487, 40000, 200);
            Check.slot("the last slot", x, size - 1, 2487, 40000, 200);
            Check.slot("the constant", x, 11650396 % size, 4950, 10000, 100);
            Check.slot("untouched", x, 2, 0, 0, 0);
            for (int i : new int[] {-1, size, size + 1, 2 * size, -size, Integer.MIN_VALUE, Integer.MAX_VALUE}) {
                Check.slot("no slot", x, i, 0, 0, 0);
            }
        }
    }

    private static void wrongModels() {
        HashedLearner x = new HashedLearner(4, 0, 0);
        Check.due("save(0)", x.save(0), true);
        Check.due("save(1)", x.save(1), true);
        Check.learn(x, "1 |");
        for (int k : WRONG_MODELS) {
            Check.due("save(" + k + ")", x.save(k), false);
            Check.due("load(" + k + ")", x.load(k), false);
        }
        Check.slot("stays", x, 12, 4950, 10000, 100);
        Check.due("load(0)", x.load(0), true);
        Check.slot("model 0 stayed", x, 12, 0, 0, 0);
        Check.learn(x, "1 |");
        Check.due("load(1)", x.load(1), true);
        Check.slot("model 1 stayed", x, 12, 0, 0, 0);
    }

    private static void neverSaved() {
        for (int k = 0; k < 2; k++) {
            HashedLearner x = new HashedLearner(4, 0, 0);
            Check.learn(x, "1 |");
            Check.due("load(" + k + ")", x.load(k), false);
            Check.due("save(" + (1 - k) + ")", x.save(1 - k), true);
            Check.due("load(" + k + ") when the other is saved", x.load(k), false);
            Check.slot("stays", x, 12, 4950, 10000, 100);
        }
    }

    private static void copies() {
        for (int k = 0; k < 2; k++) {
            HashedLearner x = new HashedLearner(4, 0, 0);
            Check.learn(x, "1 | 3");
            Check.due("save()", x.save(k), true);
            Check.learn(x, "-3 | 3 5");
            Check.due("the table goes on alone", x.weight(5), -4987);
            for (int n = 0; n < 2; n++) {
                Check.due("load()", x.load(k), true);
                Check.slot("as it was", x, 3, 4950, 10000, 100);
                Check.slot("as it was", x, 12, 4950, 10000, 100);
                Check.slot("as it was", x, 5, 0, 0, 0);
                Check.learn(x, "9 | 5 3");
            }
            Check.due("saved over", x.save(k), true);
            int weight = x.weight(3);
            Check.learn(x, "-9 | 3");
            Check.due("load()", x.load(k), true);
            Check.due("the later copy", x.weight(3), weight);
        }
    }

    private static void twoModels() {
        HashedLearner x = new HashedLearner(4, 0, 1);
        x.save(0);
        Check.learn(x, "1 |");
        x.save(1);
        x.load(0);
        Check.slot("model 0", x, 12, 0, 0, 0);
        x.load(1);
        Check.slot("model 1", x, 12, 2250, 10000, -100);
        x.load(0);
        x.save(1);
        x.load(1);
        Check.slot("model 1 from model 0", x, 12, 0, 0, 0);
    }

    private static void nothingElse() {
        HashedLearner x = new HashedLearner(4, 0, 0);
        x.save(0);
        Check.learn(x, "1 |");
        Check.read(x, "wrong");
        Check.read(x, "2 | 3 4");
        Check.type(x, "| 5 ");
        x.load(0);
        Check.due("loss()", x.loss(), 100);
        Check.due("report(-1)", x.report(-1), 1);
        Check.due("report(0)", x.report(0), 100);
        Check.due("warnings()", x.warnings(), 1);
        Check.due("waiting()", x.waiting(), 1);
        Check.due("terms()", x.terms(), 3);
        Check.due("peek() by the loaded table", x.peek(), 0);
        Check.due("line()", Check.read(x, "6"), 2);
        Check.due("pass()", x.pass(), 1);
        Check.due("cross", x.cross('a', 'b'), false);
    }

    public static void main(String[] args) {
        slots();
        wrongModels();
        neverSaved();
        copies();
        twoModels();
        nothingElse();
        Check.end();
    }
}
