/** Promise 1. */
public final class NewObjectTest {
    private static void bits(int bits, int lastSlot, int constantSlot) {
        HashedLearner x = new HashedLearner(bits, 0, 0);
        Check.read(x, "1 | 31");
        Check.due("bits " + bits + ": index(0)", x.index(0), lastSlot);
        Check.due("bits " + bits + ": index(1)", x.index(1), constantSlot);
        x.learn();
        Check.due("bits " + bits + ": weight of the last slot", x.weight(lastSlot), 4950);
        Check.due("bits " + bits + ": weight behind it", x.weight(lastSlot + 1), 0);
    }

    private static void loss(int loss, long cost) {
        HashedLearner x = new HashedLearner(4, loss, 0);
        Check.learn(x, "3 |");
        Check.due("loss " + loss + ": loss()", x.loss(), cost);
    }

    private static void rule(int rule, long weight, long scale) {
        HashedLearner x = new HashedLearner(4, 0, rule);
        Check.learn(x, "1 |");
        Check.slot("rule " + rule, x, 12, weight, 10000, scale);
    }

    private static void isEmpty(HashedLearner x) {
        Check.due("waiting()", x.waiting(), 0);
        Check.due("terms()", x.terms(), -1);
        Check.due("index(0)", x.index(0), -1);
        Check.due("value(0)", x.value(0), 0);
        Check.due("hash(0)", x.hash(0), 0);
        Check.due("learn()", x.learn(), HashedLearner.NONE);
        Check.due("peek()", x.peek(), HashedLearner.NONE);
        Check.due("pass()", x.pass(), 0);
        Check.due("loss()", x.loss(), 0);
        Check.due("report(-1)", x.report(-1), 0);
        Check.due("report(0)", x.report(0), -1);
        Check.due("warnings()", x.warnings(), 0);
        Check.due("load(0)", x.load(0), false);
        Check.due("load(1)", x.load(1), false);
        for (int i = 0; i < 16; i++) {
            Check.slot("a new table", x, i, 0, 0, 0);
        }
        Check.due("line() of the empty line", x.line(), -1);
        Check.due("line() without crossings", Check.read(x, "|a b |b a"), 2);
        Check.due("terms() without crossings", x.terms(), 3);
    }

    public static void main(String[] args) {
        bits(3, 7, 4);
        bits(4, 15, 12);
        bits(5, 31, 28);
        for (int other : new int[] {2, 6, 0, -1, -4, 36, Integer.MIN_VALUE, Integer.MAX_VALUE}) {
            bits(other, 15, 12);
        }
        loss(0, 900);
        loss(1, 100);
        loss(2, 75);
        for (int other : new int[] {-1, 3, Integer.MIN_VALUE, Integer.MAX_VALUE}) {
            loss(other, 900);
        }
        rule(0, 4950, 100);
        rule(1, 2250, -100);
        for (int other : new int[] {-1, 2, Integer.MIN_VALUE, Integer.MAX_VALUE}) {
            rule(other, 4950, 100);
        }
        isEmpty(new HashedLearner(4, 0, 0));
        Check.end();
    }
}
