/** Promises 5, 6 and 18: learn, peek, loss; and the losses and rules that learning goes by. */
public final class LearnTest {
    private static final int CONSTANT = 12;

    private static HashedLearner learner(int loss, int rule) {
        return new HashedLearner(4, loss, rule);
    }

    private static void squares() {
        HashedLearner x = learner(0, 0);
        Check.due("learn()", Check.learn(x, "1 |"), 0);
        Check.slot("squares, once", x, CONSTANT, 4950, 10000, 100);
        Check.due("loss()", x.loss(), 100);
        Check.due("learn() again", Check.learn(x, "1 |"), 49);
        Check.slot("squares, twice", x, CONSTANT, 7206, 12601, 100);
        Check.due("loss()", x.loss(), 126);
    }

    private static void negativeSquares() {
        HashedLearner x = learner(0, 0);
        Check.due("learn()", Check.learn(x, "-1 |"), 0);
        Check.slot("squares, negative", x, CONSTANT, -4950, 10000, 100);
        Check.due("learn() rounds towards 0", Check.learn(x, "-1 |"), -49);
        Check.slot("squares, negative, twice", x, CONSTANT, -7206, 12601, 100);
    }

    private static void importance() {
        HashedLearner x = learner(0, 0);
        Check.due("learn()", Check.learn(x, "1 2 |"), 0);
        Check.slot("importance 2", x, CONSTANT, 7206, 12601, 100);
        Check.due("loss() is the first cost, twice", x.loss(), 200);
        for (int n = 1; n <= 5; n++) {
            HashedLearner once = learner(0, 0);
            HashedLearner often = learner(0, 0);
            for (int k = 0; k < n; k++) {
                Check.learn(once, "3 |a x:2");
            }
            Check.learn(often, "3 " + n + " |a x:2");
            Check.due("weight after importance " + n, often.weight(CONSTANT), once.weight(CONSTANT));
            Check.due("sum after importance " + n, often.sum(CONSTANT), once.sum(CONSTANT));
            Check.due("loss() after importance " + n, often.loss(), 900L * n);
        }
    }

    private static void unlabelled() {
        HashedLearner x = learner(0, 0);
        Check.learn(x, "1 |");
        Check.read(x, "|");
        Check.read(x, "  | 3");
        Check.due("peek()", x.peek(), 49);
        Check.due("learn()", x.learn(), 49);
        Check.due("waiting()", x.waiting(), 1);
        Check.due("learn()", x.learn(), 49);
        Check.slot("unlabelled", x, CONSTANT, 4950, 10000, 100);
        Check.slot("unlabelled", x, 3, 0, 0, 0);
        Check.due("loss()", x.loss(), 100);
        Check.due("report(-1)", x.report(-1), 1);
        Check.due("pass()", x.pass(), 1);
    }

    private static void zeroIsALabel() {
        HashedLearner x = learner(0, 0);
        Check.learn(x, "0 |");
        Check.due("report(-1) after the label 0", x.report(-1), 1);
        Check.due("pass() after the label 0", x.pass(), 1);
        Check.slot("label 0", x, CONSTANT, 0, 0, 100);
    }

    private static void emptyRing() {
        HashedLearner x = learner(0, 0);
        Check.due("learn() of an empty ring", x.learn(), HashedLearner.NONE);
        Check.due("peek() of an empty ring", x.peek(), HashedLearner.NONE);
        Check.learn(x, "1 |");
        Check.type(x, "| 3");
        Check.due("learn() after the last", x.learn(), HashedLearner.NONE);
        Check.due("peek() after the last", x.peek(), HashedLearner.NONE);
        Check.slot("nothing changed", x, CONSTANT, 4950, 10000, 100);
        Check.due("loss()", x.loss(), 100);
        Check.due("waiting()", x.waiting(), 0);
        Check.due("the line stays", x.line(), 1);
    }

    private static void oldestFirst() {
        HashedLearner x = learner(0, 0);
        Check.read(x, "1 |");
        Check.read(x, "-3 |");
        Check.due("peek() is of the first", x.peek(), 0);
        Check.due("peek() changes nothing", x.peek(), 0);
        Check.due("learn()", x.learn(), 0);
        Check.due("peek() is of the second", x.peek(), 49);
        Check.due("learn()", x.learn(), 49);
        Check.slot("1, then -3", x, CONSTANT, 157, 131801, 100);
        Check.due("loss()", x.loss(), 100 + 349 * 349 / 100);
    }

    private static void hinge() {
        HashedLearner x = learner(1, 0);
        int[] predictions = {0, 49, 84, 113, 113};
        int[] weights = {4950, 8471, 11344, 11344, 11344};
        int[] sums = {10000, 20000, 30000, 30000, 30000};
        int[] losses = {100, 151, 167, 167, 167};
        for (int n = 0; n < 5; n++) {
            Check.due("hinge, learn() " + n, Check.learn(x, "7 |"), predictions[n]);
            Check.slot("hinge " + n, x, CONSTANT, weights[n], sums[n], 100);
            Check.due("hinge, loss() " + n, x.loss(), losses[n]);
        }
        x = learner(1, 0);
        Check.learn(x, "-0.01 |");
        Check.slot("hinge, negative", x, CONSTANT, -4950, 10000, 100);
        Check.due("hinge, negative, learn()", Check.learn(x, "5 |"), -49);
        Check.due("hinge, the wrong side, loss()", x.loss(), 100 + 149);
        for (String zero : new String[] {"0", "-0", "0.00", "-0.0"}) {
            x = learner(1, 0);
            Check.learn(x, zero + " |");
            Check.slot("hinge, the label " + zero, x, CONSTANT, 4950, 10000, 100);
        }
    }

    private static void hingeAtTheMargin() {
        HashedLearner x = learner(1, 0);
        Check.learn(x, "1 |");
        x.save(0);
        Check.due("at 100", Check.learn(x, "1 | 12:1.03"), 100);
        Check.slot("at 100", x, CONSTANT, 4805, 10000, 103);
        Check.due("loss() at 100", x.loss(), 100);
        x.load(0);
        Check.due("at 99", Check.learn(x, "1 | 12:1.02"), 99);
        Check.due("sum at 99", x.sum(CONSTANT), 10000 + 102 * 102 + 100 * 100);
        Check.due("loss() at 99", x.loss(), 101);
        x.load(0);
        Check.due("at -100, the wrong side", Check.learn(x, "1 | 12:-3.03"), -100);
        Check.due("loss() at -100", x.loss(), 301);
    }

    private static void quantile() {
        HashedLearner x = learner(2, 0);
        Check.due("below", Check.learn(x, "3 |"), 0);
        Check.slot("below", x, CONSTANT, 4807, 625, 100);
        Check.due("loss() below", x.loss(), 75);
        Check.due("above", Check.learn(x, "0 |"), 48);
        Check.slot("above", x, CONSTANT, 120, 6250, 100);
        Check.due("loss() above", x.loss(), 75 + 36);
        Check.due("equal", Check.learn(x, "0.01 |"), 1);
        Check.slot("equal", x, CONSTANT, 120, 6250, 100);
        Check.due("loss() equal", x.loss(), 75 + 36);
        Check.due("above by 1", Check.learn(x, "0 |"), 1);
        Check.due("loss() above by 1: 75 / 100 is 0", x.loss(), 75 + 36);
        Check.due("sum above by 1", x.sum(CONSTANT), 6250 + 75 * 75);
    }

    private static void ruleZero() {
        HashedLearner x = learner(0, 0);
        Check.learn(x, "1 | 12:2");
        Check.slot("two terms of one slot, one after the other", x, CONSTANT, 3603, 50000, 200);
        x = learner(0, 0);
        Check.learn(x, "1 | 3:0 5:-2");
        Check.slot("a value of 0", x, 3, 0, 0, 0);
        Check.slot("a negative value", x, 5, -2487, 40000, 200);
        Check.learn(x, "0 | 5:0");
        Check.slot("a value of 0 later", x, 5, -2487, 40000, 200);
    }

    private static void ruleOne() {
        HashedLearner x = learner(0, 1);
        Check.learn(x, "1 |");
        Check.slot("rule 1, once", x, CONSTANT, 2250, 10000, -100);
        Check.due("learn()", Check.learn(x, "1 |"), 22);
        Check.slot("rule 1, twice", x, CONSTANT, 3960, 16084, -189);
        String[] labels = {"0.1", "0.11", "-0.1", "-0.11", "0.12"};
        int[] weights = {0, 45, 0, -45, 89};
        int[] scales = {-10, -11, 10, 11, -12};
        for (int n = 0; n < labels.length; n++) {
            x = learner(0, 1);
            Check.learn(x, labels[n] + " | 3:0");
            Check.slot("rule 1, " + labels[n], x, CONSTANT, weights[n], scales[n] * scales[n], scales[n]);
            Check.slot("rule 1, a value of 0", x, 3, 0, 0, 0);
        }
    }

    private static void ruleOneFurther() {
        HashedLearner x = learner(0, 1);
        Check.learn(x, "1 |");
        x.save(0);
        Check.learn(x, "-0.93 |");
        Check.slot("rule 1, back to a small scale", x, CONSTANT, 0, 23225, -8);
        x.load(0);
        Check.learn(x, "999.99 |");
        Check.slot("rule 1, a great pull", x, CONSTANT, 7244, 9995410529L, -145021);
    }

    private static void greatPredictions() {
        HashedLearner x = learner(0, 0);
        Check.learn(x, "1 |");
        Check.read(x, "| 12:999.99");
        Check.due("squares, peek()", x.peek(), 49549);
        x = learner(2, 0);
        Check.learn(x, "3 |");
        x.save(0);
        Check.due("quantile, learn() far below", Check.learn(x, "999.99 |"), 48);
        Check.due("quantile, loss() far below", x.loss(), 75 + 24987);
        x.load(0);
        Check.due("quantile, learn() far above", Check.learn(x, "0 | 12:100"), 4855);
        Check.due("quantile, loss() far above", x.loss(), 75 + 24987 + 3641);
    }

    /** What a malformed line said must not come back with the next one. */
    private static void afterMalformed() {
        HashedLearner x = learner(0, 0);
        Check.due("line()", Check.read(x, "9 5| 5 6 7 :"), -1);
        Check.due("line()", Check.read(x, "1| 3"), 1);
        Check.due("terms()", x.terms(), 2);
        Check.due("hash(1)", x.hash(1), 0);
        x.learn();
        Check.slot("importance 1", x, CONSTANT, 4950, 10000, 100);
        Check.due("line()", Check.read(x, "9 5|:"), -1);
        Check.due("line()", Check.read(x, "|"), 0);
        x.learn();
        Check.slot("no label", x, CONSTANT, 4950, 10000, 100);
        Check.due("loss()", x.loss(), 100);
    }

    private static void limits() {
        HashedLearner x = learner(0, 0);
        Check.learn(x, "999.99 | 0:0.01");
        Check.slot("a small value", x, 0, 499500, 998001, 1);
        Check.slot("the constant", x, CONSTANT, 4999, 9999800001L, 100);
        Check.read(x, "| 0:-999.99");
        Check.due("the least prediction", x.learn(), -1000000);
        Check.due("the greatest prediction", Check.learn(x, "-1 | 0:999.99"), 1000000);
        Check.due("loss()", x.loss(), 99998000L + 10002000100L);
        Check.slot("the greatest gradient", x, 0, -1, 9999800001998001L, 99999);
        Check.slot("the greatest gradient, constant", x, CONSTANT, 1464, 19999800001L, 100);
        for (int rule = 0; rule < 2; rule++) {
            x = learner(0, rule);
            Check.learn(x, "999.99 | 0:999.99");
            Check.due("nearly the greatest sum", x.sum(0), 9999600004000000L);
            Check.learn(x, "-999.99 | 0:999.99");
            Check.slot("the greatest sum", x, 0, 1 - rule, 10000000000000000L, rule == 0 ? 99999 : -999);
        }
    }

    public static void main(String[] args) {
        squares();
        negativeSquares();
        importance();
        unlabelled();
        zeroIsALabel();
        emptyRing();
        oldestFirst();
        hinge();
        hingeAtTheMargin();
        quantile();
        ruleZero();
        ruleOne();
        ruleOneFurther();
        greatPredictions();
        afterMalformed();
        limits();
        Check.end();
    }
}
