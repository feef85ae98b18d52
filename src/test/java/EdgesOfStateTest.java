/** The document's sentences on ring, store, reports and loss that name an edge, each with a test of its own. */
public final class EdgesOfStateTest {
    private static final int CONSTANT = 12;

    private static HashedLearner learner() {
        return new HashedLearner(4, 0, 0);
    }

    private static void tellsApart(HashedLearner x, String when, long loss, int reports, int stored, int waiting, int warnings) {
        Check.due(when + ": loss()", x.loss(), loss);
        Check.due(when + ": report(-1)", x.report(-1), reports);
        Check.due(when + ": waiting()", x.waiting(), waiting);
        Check.due(when + ": warnings()", x.warnings(), warnings);
        Check.due(when + ": pass()", x.pass(), stored);
    }

    private static void ringOfFour() {
        Check.sentence("The RING holds at most 4 examples, in the order in which their lines came; the oldest is the first");
        HashedLearner x = learner();
        int last = 0;
        int first = 1;
        for (int round = 0; round < 11; round++) {
            while (x.waiting() < 4) {
                last++;
                Check.due("line()", Check.read(x, "| " + last), 1);
            }
            Check.due("line() of one too many", x.line(), -2);
            for (int n = 0; n <= round % 4; n++) {
                Check.due("hash(0)", x.hash(0), first);
                x.learn();
                first++;
            }
        }
        for (; first <= last; first++) {
            Check.due("hash(0) at the end", x.hash(0), first);
            x.learn();
        }
        Check.due("waiting()", x.waiting(), 0);
    }

    /** The same, with labels: the first 16 go from the ring into the store. */
    private static void ringWhileTheStoreFills() {
        Check.sentence("The RING holds at most 4 examples, in the order in which their lines came: with labels, too");
        HashedLearner x = learner();
        int last = 0;
        for (int first = 1; first <= 24; first++) {
            while (x.waiting() < 4) {
                last++;
                Check.due("line()", Check.read(x, "1| " + last + ":" + last), 1);
            }
            Check.due("hash(0)", x.hash(0), first);
            Check.due("value(0)", x.value(0), 100 * first);
            Check.due("terms()", x.terms(), 2);
            x.learn();
        }
    }

    private static void storeOfSixteen() {
        Check.sentence("The STORE holds at most 16 examples; it comes into the store, if that holds fewer than 16");
        HashedLearner x = learner();
        x.save(0);
        for (int n = 1; n <= 15; n++) {
            Check.learn(x, "0|");
            Check.due("pass() after " + n, x.pass(), n);
        }
        Check.learn(x, "0| 3");
        Check.due("pass() after 16", x.pass(), 16);
        Check.learn(x, "0| 5");
        Check.due("pass() after 17", x.pass(), 16);
        Check.learn(x, "0| 6");
        x.load(0);
        Check.due("pass()", x.pass(), 16);
        Check.due("the 16th is there", x.scale(3), 100);
        Check.due("the 17th is not", x.scale(5), 0);
        Check.due("the 18th is not", x.scale(6), 0);
        Check.due("report(-1): they were learned", x.report(-1), 5);
    }

    private static void storeOrder() {
        Check.sentence("The STORE holds examples that were learned, in the order in which they were");
        HashedLearner x = learner();
        x.save(0);
        for (int n = 1; n <= 16; n++) {
            Check.learn(x, (n % 3 == 0 ? "-" : "") + n + " " + (1 + n % 5) + "| " + n);
        }
        int[] weights = new int[16];
        for (int i = 0; i < 16; i++) {
            weights[i] = x.weight(i);
        }
        x.load(0);
        x.pass();
        for (int i = 0; i < 16; i++) {
            Check.due("weight(" + i + ") after the same lines again", x.weight(i), weights[i]);
        }
    }

    private static void shorterAfterLonger() {
        Check.sentence("To LEARN an example: its terms alone, however many the one before had");
        HashedLearner x = learner();
        Check.learn(x, "1| 3 5 6");
        Check.due("learn() of one term after four", Check.learn(x, "|"), 49);
        Check.read(x, "| 3 5 6");
        Check.read(x, "1|");
        Check.due("learn() of four terms", x.learn(), 198);
        Check.due("peek() of one term after four", x.peek(), 49);
        Check.due("learn() of one term after four", x.learn(), 49);
        Check.slot("a term of the one before", x, 3, 4950, 10000, 100);
        Check.slot("a term of the one before", x, 5, 4950, 10000, 100);
        Check.slot("a term of the one before", x, 6, 4950, 10000, 100);
        Check.slot("its own term", x, CONSTANT, 7206, 12601, 100);
    }

    private static void emptyRing() {
        Check.sentence("learn: NONE, changing nothing, if the ring is empty");
        HashedLearner x = learner();
        Check.due("learn() at first", x.learn(), HashedLearner.NONE);
        Check.due("NONE", HashedLearner.NONE, Integer.MIN_VALUE);
        tellsApart(x, "at first", 0, 0, 0, 0, 0);
        Check.due("cross: no line was read", x.cross('a', 'a'), true);
        Check.learn(x, "1|");
        Check.type(x, "| 7");
        for (int n = 0; n < 5; n++) {
            Check.due("learn() after the last", x.learn(), HashedLearner.NONE);
        }
        Check.slot("the table stays", x, CONSTANT, 4950, 10000, 100);
        tellsApart(x, "after the last", 100, 1, 1, 0, 0);
        Check.due("line(): the line stays", x.line(), 1);
        Check.due("hash(0)", x.hash(0), 7);
        Check.due("waiting()", x.waiting(), 1);
    }

    private static void withoutLabel() {
        Check.sentence("learn: of one without a label, too, which does nothing else");
        HashedLearner x = learner();
        Check.learn(x, "1|");
        Check.due("learn() of '|'", Check.learn(x, "|"), 49);
        Check.due("learn() of '  | 12:3'", Check.learn(x, "  | 12:3"), 198);
        Check.due("learn() of '| 3'", Check.learn(x, "| 3"), 49);
        Check.slot("the table stays", x, CONSTANT, 4950, 10000, 100);
        Check.slot("the table stays", x, 3, 0, 0, 0);
        tellsApart(x, "without a label", 100, 1, 1, 0, 0);
    }

    private static void answersBefore() {
        Check.sentence("learn: Answers its prediction (before it is learned)");
        HashedLearner x = learner();
        Check.due("learn() with importance 5", Check.learn(x, "1 5|"), 0);
        Check.due("loss() by that prediction", x.loss(), 500);
        int after = x.weight(CONSTANT) / 100;
        Check.due("the weight moved", after > 0, true);
        Check.due("learn() the next time", Check.learn(x, "1 5|"), after);
    }

    private static void predictionAnew() {
        Check.sentence("learn: it is learned as many times as its importance says (each time with a prediction anew)");
        HashedLearner x = learner();
        Check.learn(x, "1 1|");
        Check.slot("once", x, CONSTANT, 4950, 10000, 100);
        x = learner();
        Check.learn(x, "1 2|");
        Check.slot("twice", x, CONSTANT, 7206, 12601, 100);
        for (int n = 1; n <= 5; n++) {
            HashedLearner often = learner();
            HashedLearner once = learner();
            Check.learn(often, "3 " + n + "| 12:0.5 3:2");
            for (int k = 0; k < n; k++) {
                Check.learn(once, "3| 12:0.5 3:2");
            }
            for (int i : new int[] {3, CONSTANT}) {
                Check.slot("importance " + n, often, i, once.weight(i), once.sum(i), once.scale(i));
            }
        }
    }

    private static void powersOfTwo() {
        Check.sentence("learn: When the number of labelled examples that left the ring so is 1, 2, 4, 8 and so on, there is a new report");
        HashedLearner x = new HashedLearner(4, 1, 0);
        x.save(0);
        int due = 0;
        for (int n = 1; n <= 70; n++) {
            x.load(0);
            Check.learn(x, "0|");
            due += n == 1 || n == 2 || n == 4 || n == 8 || n == 16 || n == 32 || n == 64 ? 1 : 0;
            Check.due("report(-1) after " + n, x.report(-1), due);
        }
        x = learner();
        Check.learn(x, "1|");
        Check.learn(x, "|");
        Check.due("report(-1): one without a label does not count", x.report(-1), 1);
        Check.read(x, "1|");
        Check.due("report(-1): one that waits does not count", x.report(-1), 1);
        x.pass();
        Check.due("report(-1): pass() does not count", x.report(-1), 1);
        x.learn();
        Check.due("report(-1)", x.report(-1), 2);
    }

    private static void sinceTheReportBefore() {
        Check.sentence("the costs times importance of those examples that came after the report before (or all) divided by the sum of their importances");
        HashedLearner x = learner();
        x.save(0);
        String[] lines = {"1 3|", "2 5|", "3|", "4 2|", "0.1|", "0.2|", "0.3|", "0.4 3|"};
        long[] reports = {100, 400, (900 + 2 * 1600) / 3, (1 + 4 + 9 + 3 * 16) / 6};
        for (String line : lines) {
            x.load(0);
            Check.learn(x, line);
        }
        Check.due("report(-1)", x.report(-1), reports.length);
        for (int k = 0; k < reports.length; k++) {
            Check.due("report(" + k + ")", x.report(k), reports[k]);
        }
        Check.due("loss()", x.loss(), 300 + 2000 + 900 + 3200 + 1 + 4 + 9 + 48);
    }

    private static void peeks() {
        Check.sentence("peek: The prediction for the first example of the ring; NONE if there is none");
        HashedLearner x = learner();
        Check.due("peek() at first", x.peek(), HashedLearner.NONE);
        Check.learn(x, "1|");
        Check.due("peek() after the last", x.peek(), HashedLearner.NONE);
        Check.read(x, "1 5| 12:3");
        Check.read(x, "|");
        for (int n = 0; n < 3; n++) {
            Check.due("peek()", x.peek(), 198);
        }
        Check.slot("peek() moves nothing", x, CONSTANT, 4950, 10000, 100);
        Check.due("waiting()", x.waiting(), 2);
        Check.due("loss()", x.loss(), 100);
        Check.due("learn()", x.learn(), 198);
        Check.due("peek() of the next", x.peek(), x.learn());
        Check.due("peek() of none", x.peek(), HashedLearner.NONE);
    }

    private static void emptyStore() {
        Check.sentence("pass: Answers how many there are: none");
        HashedLearner x = learner();
        Check.due("pass() at first", x.pass(), 0);
        Check.learn(x, "| 3");
        Check.due("pass() after one without a label", x.pass(), 0);
        Check.read(x, "1| 3");
        Check.due("pass() while one waits", x.pass(), 0);
        for (int i = 0; i < 16; i++) {
            Check.slot("the table stays", x, i, 0, 0, 0);
        }
    }

    private static void lossAndReportsStay() {
        Check.sentence("pass: Learns each example of the store again, as many times as its importance says (loss and reports stay)");
        HashedLearner x = learner();
        x.save(0);
        Check.learn(x, "1 2|");
        x.load(0);
        Check.due("pass()", x.pass(), 1);
        Check.slot("learned twice", x, CONSTANT, 7206, 12601, 100);
        Check.due("loss()", x.loss(), 200);
        Check.due("report(-1)", x.report(-1), 1);
        Check.due("report(0)", x.report(0), 100);
        x.load(0);
        Check.learn(x, "2|");
        Check.due("report(1): pass() is no part of it", x.report(1), 400);
    }

    private static void howManyWait() {
        Check.sentence("waiting: How many examples the ring holds");
        HashedLearner x = learner();
        Check.due("waiting() at first", x.waiting(), 0);
        Check.type(x, "|");
        Check.due("waiting() while a line is typed", x.waiting(), 0);
        x.line();
        Check.due("waiting()", x.waiting(), 1);
        x.line();
        Check.due("waiting() after a malformed line", x.waiting(), 1);
        for (int n = 2; n <= 6; n++) {
            Check.type(x, n <= 5 ? "|" : "");
            x.line();
            Check.due("waiting()", x.waiting(), Math.min(n, 4));
        }
        for (int n = 3; n >= 0; n--) {
            x.learn();
            Check.due("waiting()", x.waiting(), n);
        }
        x.learn();
        Check.due("waiting() of the empty ring", x.waiting(), 0);
    }

    private static void lossAtFirst() {
        Check.sentence("loss: The LOSS (by learn() alone), 0 at first");
        HashedLearner x = learner();
        Check.due("loss() at first", x.loss(), 0);
        Check.read(x, "3|");
        Check.read(x, "wrong");
        x.peek();
        x.pass();
        Check.due("loss() before learn()", x.loss(), 0);
        x.learn();
        Check.due("loss()", x.loss(), 900);
        x.peek();
        x.pass();
        x.save(0);
        x.load(0);
        x.learn();
        Check.due("loss() after other calls", x.loss(), 900);
    }

    /** The greatest cost there is, 1099999 squared by 100, five times each: far more than an int holds. */
    private static void greatestLoss() {
        Check.sentence("All quotients are Java's, with long numbers: a loss and reports beyond an int");
        HashedLearner x = learner();
        Check.learn(x, "999.99 | 0:0.01");
        x.save(0);
        long cost = 1099999L * 1099999L / 100;
        for (int n = 1; n <= 15; n++) {
            x.load(0);
            Check.due("learn()", Check.learn(x, "-999.99 5|0:9 0:999"), 1000000);
            Check.due("loss()", x.loss(), 99998000L + 5 * n * cost);
        }
        Check.due("report(-1)", x.report(-1), 5);
        for (int k = 1; k < 5; k++) {
            Check.due("report(" + k + ")", x.report(k), cost);
        }
    }

    private static void reportOfNone() {
        Check.sentence("report: Report k (from 0); -1 if there is none. k = -1: how many there are");
        HashedLearner x = learner();
        Check.due("report(-1) at first", x.report(-1), 0);
        Check.due("report(0) at first", x.report(0), -1);
        Check.learn(x, "1|");
        Check.due("report(-1)", x.report(-1), 1);
        Check.due("report(0)", x.report(0), 100);
        for (int k : new int[] {1, 2, 30, 31, 32, 1000, -2, -3, -100, Integer.MIN_VALUE, Integer.MAX_VALUE}) {
            Check.due("report(" + k + ")", x.report(k), -1);
        }
    }

    /** 127 examples of 4 calls each leave 4 of the 512 calls for a look at the last reports. */
    private static void mostReports() {
        Check.sentence("report: there may be many; an object is used for at most 512 calls");
        HashedLearner x = new HashedLearner(4, 1, 0);
        for (int n = 1; n <= 127; n++) {
            Check.learn(x, "0|");
        }
        Check.due("report(-1)", x.report(-1), 7);
        Check.due("report(0)", x.report(0), 100);
        Check.due("report(6)", x.report(6), 0);
        Check.due("report(7)", x.report(7), -1);
    }

    public static void main(String[] args) {
        ringOfFour();
        ringWhileTheStoreFills();
        storeOfSixteen();
        storeOrder();
        shorterAfterLonger();
        emptyRing();
        withoutLabel();
        answersBefore();
        predictionAnew();
        powersOfTwo();
        sinceTheReportBefore();
        peeks();
        emptyStore();
        lossAndReportsStay();
        howManyWait();
        lossAtFirst();
        greatestLoss();
        reportOfNone();
        mostReports();
        Check.end();
    }
}
