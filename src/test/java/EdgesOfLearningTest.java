import java.lang.reflect.Field;

/** The document's sentences on predictions, losses and rules that name an edge, each with a test of its own. */
public final class EdgesOfLearningTest {
    private static final int SQUARES = 0;
    private static final int HINGE = 1;
    private static final int QUANTILE = 2;
    private static final int CONSTANT = 12;

    private static HashedLearner learner(int loss, int rule) {
        return new HashedLearner(4, loss, rule);
    }

    private static void slotAfter(int rule, String line, int i, long weight, long sum, long scale) {
        HashedLearner x = learner(SQUARES, rule);
        Check.learn(x, line);
        Check.slot("'" + line + "' by rule " + rule, x, i, weight, sum, scale);
    }

    private static void towardsZero() {
        Check.sentence("All quotients are Java's (towards 0)");
        slotAfter(0, "0.01| 3:1.5", 3, 1666, 1, 150);
        slotAfter(0, "-0.01| 3:1.5", 3, -1666, 1, 150);
        slotAfter(0, "0.01| 3:-1.5", 3, -1666, 1, 150);
        slotAfter(0, "-0.01| 3:-1.5", 3, 1666, 1, 150);
        slotAfter(0, "2| 3:0.01", 3, 333333, 4, 1);
        slotAfter(0, "-2| 3:0.01", 3, -333333, 4, 1);
        slotAfter(0, "0.01| 3:0.99", 3, 0, 0, 99);
        slotAfter(0, "-0.01| 3:0.99", 3, 0, 0, 99);
        for (int sign = -1; sign <= 1; sign += 2) {
            HashedLearner x = learner(SQUARES, 1);
            String line = sign + "|";
            Check.due("learn() of '" + line + "'", Check.learn(x, line), 0);
            Check.due("learn() of '" + line + "'", Check.learn(x, line), sign * 22);
            Check.slot("'" + line + "' twice by rule 1", x, CONSTANT, sign * 3960, 16084, -sign * 189);
        }
    }

    private static void wholeQuotients() {
        Check.sentence("All quotients are Java's (towards 0): those that come out even, and those that nearly do");
        String[] amounts = {"1", "-0.96", "-0.97", "-1.04", "-1.03", "-1"};
        int[] due = {50, 1, 0, -1, 0, 0};
        for (int sign = -1; sign <= 1; sign += 2) {
            HashedLearner x = learner(SQUARES, 0);
            Check.learn(x, (sign < 0 ? "-" : "") + "0.01|");
            Check.due("weight(12)", x.weight(CONSTANT), sign * 2500);
            for (int n = 0; n < amounts.length; n++) {
                Check.due("learn() of " + amounts[n], Check.learn(x, "| 12:" + amounts[n]), sign * due[n]);
            }
        }
    }

    private static void roots() {
        Check.sentence("ROOT(v) is the greatest r with r * r <= v");
        slotAfter(0, "0.01|", CONSTANT, 2500, 1, 100);
        slotAfter(0, "0.01| 12", CONSTANT, 2500 + 2500, 2, 100);
        slotAfter(0, "0.01| 12 12", CONSTANT, 2500 + 2500 + 2500, 3, 100);
        slotAfter(0, "0.01| 12 12 12", CONSTANT, 2500 + 2500 + 2500 + 1666, 4, 100);
        slotAfter(0, "0.02|", CONSTANT, 3333, 4, 100);
        slotAfter(0, "0.02| 12", CONSTANT, 3333 + 3333, 8, 100);
        slotAfter(0, "0.02| 12 12", CONSTANT, 3333 + 3333 + 2500, 12, 100);
        slotAfter(0, "999.99| 3:0.01", 3, 499500, 998001, 1);
        slotAfter(1, "999.99| 3:999.99", 3, 4999, 9999600004000000L, -99998000);
    }

    /** Slot 0 has the weight 499500 then, and the constant's 4999. */
    private static HashedLearner withAGreatWeight() {
        HashedLearner x = learner(SQUARES, 0);
        Check.learn(x, "999.99 | 0:0.01");
        return x;
    }

    private static void greatestPrediction() {
        Check.sentence("The PREDICTION is CLIP(the sum of weight * value over its terms / 10000, 1000000)");
        String[] amounts = {"200.19", "200.20", "999.99", "-200.21", "-200.22", "-999.99", "0"};
        int[] due = {999999, 1000000, 1000000, -999998, -1000000, -1000000, 49};
        HashedLearner x = withAGreatWeight();
        for (int n = 0; n < amounts.length; n++) {
            Check.read(x, "| 0:" + amounts[n]);
            Check.due("peek() of " + amounts[n], x.peek(), due[n]);
            Check.due("learn() of " + amounts[n], x.learn(), due[n]);
        }
    }

    private static void sumBeforeQuotient() {
        Check.sentence("the sum of weight * value over its terms / 10000: one quotient of the whole sum");
        HashedLearner x = learner(SQUARES, 0);
        Check.learn(x, "1| 3");
        Check.read(x, "| 3");
        Check.due("peek(): 99 of 49.5 and 49.5", x.peek(), 99);
    }

    private static void gradientOfSquares() {
        Check.sentence("squares: GRADIENT CLIP(p - y, 100000)");
        String[] lines = {"-999.99| 12:-0.96", "-999.99| 12:-0.95", "999.99| 12:-1.03", "999.99| 12:-1.05"};
        int[] predictions = {1, 2, -1, -2};
        long[] values = {96, 95, 103, 105};
        HashedLearner x = learner(SQUARES, 0);
        Check.learn(x, "1|");
        x.save(0);
        for (int n = 0; n < lines.length; n++) {
            x.load(0);
            Check.due("learn() of '" + lines[n] + "'", Check.learn(x, lines[n]), predictions[n]);
            long due = 10000 + 1000000 * values[n] * values[n] + 10000000000L;
            Check.due("sum(12) of '" + lines[n] + "'", x.sum(CONSTANT), due);
        }
        x = withAGreatWeight();
        Check.due("learn() far above", Check.learn(x, "-999.99| 0:999.99"), 1000000);
        Check.due("sum(0) far above", x.sum(0), 998001L + 99999000L * 99999000L);
    }

    private static void costOfSquares() {
        Check.sentence("squares: COST (p - y) * (p - y) / 100");
        String[] labels = {"0.09", "0.1", "-0.09", "-0.1", "0.99", "999.99", "-999.99", "0"};
        long[] due = {0, 1, 0, 1, 98, 99998000, 99998000, 0};
        for (int n = 0; n < labels.length; n++) {
            HashedLearner x = learner(SQUARES, 0);
            Check.learn(x, labels[n] + "|");
            Check.due("loss() of " + labels[n], x.loss(), due[n]);
        }
        HashedLearner x = withAGreatWeight();
        Check.learn(x, "-999.99| 0:999.99");
        Check.due("loss(): the cost is not clipped as the gradient is", x.loss(), 99998000L + 1099999L * 1099999L / 100);
    }

    private static void signOfLabel() {
        Check.sentence("t = 1 if y >= 0, else -1");
        String[] labels = {"0", "-0", "-0.00", "0.01", "-0.01", "999.99", "-999.99"};
        int[] due = {4950, 4950, 4950, 4950, -4950, 4950, -4950};
        for (int n = 0; n < labels.length; n++) {
            HashedLearner x = learner(HINGE, 0);
            Check.learn(x, labels[n] + "|");
            Check.due("weight of the label " + labels[n], x.weight(CONSTANT), due[n]);
        }
    }

    /** The weight of slot 12 is 4950 times the sign before each line, so that an amount picks the prediction. */
    private static void hingeAt(String line, int sign, int prediction, boolean moves, int cost) {
        HashedLearner x = learner(HINGE, 0);
        Check.learn(x, sign + "|");
        Check.due("learn() of '" + line + "'", Check.learn(x, line), prediction);
        Check.due("loss() of '" + line + "'", x.loss(), 100 + cost);
        Check.due("'" + line + "' moves the slot", x.sum(CONSTANT) != 10000, moves);
    }

    private static void hinge() {
        Check.sentence("hinge: gradient 0 if t * p >= 100, else -100 * t; cost 100 - t * p if that is more than 0, else 0");
        hingeAt("1| 12:1.02", 1, 99, true, 1);
        hingeAt("1| 12:1.03", 1, 100, false, 0);
        hingeAt("1| 12:1.05", 1, 101, false, 0);
        hingeAt("1| 12:999.99", 1, 49549, false, 0);
        hingeAt("-1| 12:1.02", -1, -99, true, 1);
        hingeAt("-1| 12:1.03", -1, -100, false, 0);
        hingeAt("-1| 12:1.05", -1, -101, false, 0);
        hingeAt("1| 12:-3.03", 1, -100, true, 200);
        hingeAt("-1| 12:1.03", 1, 100, true, 200);
    }

    private static void quantile() {
        Check.sentence("quantile: gradient 75 if p > y, -25 if p < y, 0 if they are equal; cost 75 * (p - y) / 100, else 25 * (y - p) / 100");
        String[] labels = {"0.48", "0.47", "0.46", "0.49", "0.51", "0.52", "-999.99", "999.99"};
        int[] gradients = {0, 75, 75, -25, -25, -25, 75, -25};
        int[] costs = {0, 0, 1, 0, 0, 1, 75 * (99999 + 48) / 100, 25 * (99999 - 48) / 100};
        for (int n = 0; n < labels.length; n++) {
            HashedLearner x = learner(QUANTILE, 0);
            Check.learn(x, "3|");
            Check.due("learn() of " + labels[n], Check.learn(x, labels[n] + "|"), 48);
            Check.due("sum(12) of " + labels[n], x.sum(CONSTANT), 625 + gradients[n] * gradients[n]);
            Check.due("the way of " + labels[n], Integer.signum(4807 - x.weight(CONSTANT)), Integer.signum(gradients[n]));
            Check.due("loss() of " + labels[n], x.loss(), 75 + costs[n]);
        }
    }

    private static void sameSlot() {
        Check.sentence("for its terms, one after the other (several may have the same slot)");
        slotAfter(0, "1| 12:2", CONSTANT, 3603, 50000, 200);
        slotAfter(0, "1| 12:0.5 12:2", CONSTANT, 5951, 52500, 200);
        slotAfter(1, "1| 12", CONSTANT, 4315, 20000, -218);
    }

    /** Each label is the prediction, so that the gradient is 0 and the scale alone can move. */
    private static void greaterValue() {
        Check.sentence("rule 0: if the magnitude m of x is more than the scale, the weight becomes weight * scale / m, and then the scale m");
        String[] lines = {"0.99| 12:1.00", "0.99| 12:1.01", "0.98| 12:0.99", "0| 12:-1.00", "0| 12:-1.01", "0.49| 12:0", "495.49| 12:999.99"};
        int[] weights = {4950, 4900, 4950, 4950, 4900, 4950, 4};
        int[] scales = {100, 101, 100, 100, 101, 100, 99999};
        HashedLearner x = learner(SQUARES, 0);
        Check.learn(x, "1|");
        x.save(0);
        for (int n = 0; n < lines.length; n++) {
            x.load(0);
            Check.learn(x, lines[n]);
            Check.slot("'" + lines[n] + "'", x, CONSTANT, weights[n], 10000, scales[n]);
        }
        x = learner(SQUARES, 0);
        Check.learn(x, "-1|");
        Check.learn(x, "-0.99| 12:1.01");
        Check.slot("a negative weight", x, CONSTANT, -4900, 10000, 101);
    }

    private static void noValue() {
        Check.sentence("rule 0: Then, if x is not 0");
        slotAfter(0, "999.99 5| 3:0", 3, 0, 0, 0);
        slotAfter(1, "999.99 5| 3:0", 3, 0, 0, 0);
        HashedLearner x = learner(SQUARES, 0);
        Check.learn(x, "1| 3");
        Check.learn(x, "-999.99 5| 3:0");
        Check.slot("a value of 0 on a slot that moved", x, 3, 4950, 10000, 100);
        slotAfter(0, "0.01| 3:0.01", 3, 0, 0, 1);
    }

    private static void greatestSum() {
        Check.sentence("the sum becomes CLIP(sum + d * d, 10^16), with that new sum");
        HashedLearner x = learner(SQUARES, 0);
        Check.learn(x, "999.99| 0:999.99");
        Check.slot("rule 0, once", x, 0, 5, 9999600004000000L, 99999);
        Check.learn(x, "-999.99| 0:999.99");
        Check.due("rule 0, sum(0)", x.sum(0), 10000000000000000L);
        Check.learn(x, "-999.99 5| 0:-999.99");
        Check.due("rule 0, sum(0) later", x.sum(0), 10000000000000000L);
        x = learner(SQUARES, 1);
        Check.learn(x, "999.99| 0:999.99");
        Check.slot("rule 1, once", x, 0, 4999, 9999600004000000L, -99998000);
        Check.due("rule 1, learn()", Check.learn(x, "999.99| 0:999.99"), 50039);
        Check.slot("rule 1, twice", x, 0, 7497, 10000000000000000L, -149959499);
    }

    private static void greatestWeight(String sign, int due) {
        Check.sentence("rule 0: the weight CLIP(weight - 500000 * d / ((1 + ROOT(sum)) * scale), 10^8)");
        HashedLearner x = learner(SQUARES, 0);
        for (int n = 0; n < 4; n++) {
            Check.learn(x, sign + "999.99 5|1:0.01 7 7 7 7");
        }
        for (int n = 0; n < 300; n++) {
            x.pass();
        }
        Check.due("weight(8)", x.weight(8), due);
        Check.due("scale(8)", x.scale(8), 1);
        x.pass();
        Check.due("weight(8) after one pass more", x.weight(8), due);
    }

    private static void smallScale() {
        Check.sentence("rule 1: the weight becomes 0 if the magnitude of the scale is at most 10; z the scale less 10 if it is positive, plus 10 if not");
        String[] labels = {"0", "0.01", "0.09", "0.1", "0.11", "0.12", "-0.01", "-0.1", "-0.11", "-0.12"};
        int[] weights = {0, 0, 0, 0, 45, 89, 0, 0, -45, -89};
        int[] scales = {0, -1, -9, -10, -11, -12, 1, 10, 11, 12};
        for (int n = 0; n < labels.length; n++) {
            slotAfter(1, labels[n] + "|", CONSTANT, weights[n], scales[n] * scales[n], scales[n]);
        }
        HashedLearner x = learner(SQUARES, 1);
        Check.learn(x, "1|");
        Check.learn(x, "-0.93|");
        Check.slot("back to a small scale", x, CONSTANT, 0, 23225, -8);
        x = learner(SQUARES, 1);
        Check.learn(x, "1|");
        Check.learn(x, "999.99|");
        Check.slot("a great pull away from it", x, CONSTANT, 7244, 9995410529L, -145021);
    }

    private static Object held(Object owner, String name) throws ReflectiveOperationException {
        Field field = owner.getClass().getDeclaredField(name);
        field.setAccessible(true);
        return field.get(owner);
    }

    /** No run of 512 calls is known that comes near the limits of rule 1, so a slot is put there by hand. */
    private static void ruleOneFrom(long scale, String line, long weight, long sum, long dueScale) throws ReflectiveOperationException {
        HashedLearner x = learner(SQUARES, 1);
        ((long[]) held(held(x, "table"), "scales"))[CONSTANT] = scale;
        Check.learn(x, line);
        Check.slot("'" + line + "' from the scale " + scale, x, CONSTANT, weight, sum, dueScale);
    }

    private static void limitsOfRuleOne() throws ReflectiveOperationException {
        long limit = 1000000000000L;
        Check.sentence("rule 1: the scale CLIP(scale + d - (ROOT(sum) - s) * weight / 5000, 10^12)");
        ruleOneFrom(limit - 101, "-1|", -100000000, 10000, limit - 1);
        ruleOneFrom(limit - 100, "-1|", -100000000, 10000, limit);
        ruleOneFrom(limit - 99, "-1|", -100000000, 10000, limit);
        ruleOneFrom(limit, "-999.99|", -100000000, 9999800001L, limit);
        ruleOneFrom(101 - limit, "1|", 100000000, 10000, 1 - limit);
        ruleOneFrom(100 - limit, "1|", 100000000, 10000, -limit);
        ruleOneFrom(99 - limit, "1|", 100000000, 10000, -limit);
        Check.sentence("rule 1: else CLIP(-5000 * z / (100 + ROOT(sum)), 10^8)");
        ruleOneFrom(1999999 + 10, "0|", -99999950, 0, 2000009);
        ruleOneFrom(2000000 + 10, "0|", -100000000, 0, 2000010);
        ruleOneFrom(2000001 + 10, "0|", -100000000, 0, 2000011);
        ruleOneFrom(-1999999 - 10, "0|", 99999950, 0, -2000009);
        ruleOneFrom(-2000001 - 10, "0|", 100000000, 0, -2000011);
    }

    public static void main(String[] args) throws ReflectiveOperationException {
        towardsZero();
        wholeQuotients();
        roots();
        greatestPrediction();
        sumBeforeQuotient();
        gradientOfSquares();
        costOfSquares();
        signOfLabel();
        hinge();
        quantile();
        sameSlot();
        greaterValue();
        noValue();
        greatestSum();
        greatestWeight("", 100000000);
        greatestWeight("-", -100000000);
        smallScale();
        limitsOfRuleOne();
        Check.end();
    }
}
