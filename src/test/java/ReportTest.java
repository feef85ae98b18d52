/** Promises 18 and 19: loss and report (and when learn() makes one, of promise 5). */
public final class ReportTest {
    private static void reports(HashedLearner x, long... want) {
        Check.due("report(-1)", x.report(-1), want.length);
        for (int k = 0; k < want.length; k++) {
            Check.due("report(" + k + ")", x.report(k), want[k]);
        }
        for (int k : new int[] {want.length, want.length + 1, -2, 31, 32, 64, Integer.MIN_VALUE, Integer.MAX_VALUE}) {
            Check.due("report(" + k + ")", x.report(k), -1);
        }
    }

    /** The table is brought back each time, so that each cost is the square of the label by 100. */
    private static void learnAnew(HashedLearner x, String line) {
        x.load(0);
        Check.due("learn()", Check.learn(x, line), 0);
    }

    private static void costsByImportance() {
        HashedLearner x = new HashedLearner(4, 0, 0);
        x.save(0);
        reports(x);
        learnAnew(x, "1|");
        reports(x, 100);
        learnAnew(x, "2 3|");
        reports(x, 100, 400);
        learnAnew(x, "3|");
        learnAnew(x, "|");
        x.pass();
        reports(x, 100, 400);
        learnAnew(x, "4 2|");
        reports(x, 100, 400, 4100 / 3);
        Check.due("loss()", x.loss(), 100 + 1200 + 900 + 3200);
        learnAnew(x, "5|");
        learnAnew(x, "-1 5|");
        learnAnew(x, "0.99|");
        reports(x, 100, 400, 1366);
        learnAnew(x, "0.01|");
        reports(x, 100, 400, 1366, (2500 + 500 + 98) / 8);
        Check.due("loss()", x.loss(), 5400 + 2500 + 500 + 98);
    }

    private static void powersOfTwo() {
        HashedLearner x = new HashedLearner(4, 1, 0);
        int due = 0;
        for (int n = 1; n <= 96; n++) {
            Check.learn(x, "0|");
            due += Integer.bitCount(n) == 1 ? 1 : 0;
            Check.due("report(-1) after " + n, x.report(-1), due);
        }
        reports(x, 100, 51, 8, 0, 0, 0, 0);
    }

    private static void greatLoss() {
        HashedLearner x = new HashedLearner(4, 0, 0);
        Check.learn(x, "999.99 | 0:0.01");
        x.save(0);
        long loss = 99998000L;
        for (int n = 0; n < 8; n++) {
            x.load(0);
            Check.learn(x, "-999.99 5| 0:999.99");
            loss += 5 * (1099999L * 1099999L / 100);
            Check.due("loss()", x.loss(), loss);
        }
        reports(x, 99998000L, 1099999L * 1099999L / 100, 1099999L * 1099999L / 100, 1099999L * 1099999L / 100);
    }

    public static void main(String[] args) {
        costsByImportance();
        powersOfTwo();
        greatLoss();
        Check.end();
    }
}
