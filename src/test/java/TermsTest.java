/** Promises 9, 10 and 11: terms, index, value. */
public final class TermsTest {
    private static void values(String what, HashedLearner x, int... want) {
        Check.due(what + ": terms()", x.terms(), want.length);
        for (int k = 0; k < want.length; k++) {
            Check.due(what + ": value(" + k + ")", x.value(k), want[k]);
        }
    }

    private static void indices(String what, HashedLearner x, int... want) {
        Check.due(what + ": terms()", x.terms(), want.length);
        for (int k = 0; k < want.length; k++) {
            Check.due(what + ": index(" + k + ")", x.index(k), want[k]);
        }
    }

    private static void value(String line, int want) {
        HashedLearner x = new HashedLearner(4, 0, 0);
        Check.read(x, line);
        Check.due("value(0) of '" + line + "'", x.value(0), want);
    }

    private static void numbers() {
        value("| a", 100);
        value("| a:12", 1200);
        value("| a:-0.5", -50);
        value("| a:0.05", 5);
        value("| a:0.50", 50);
        value("| a:-0", 0);
        value("| a:007", 700);
        value("| a:999.99", 99999);
        value("| a:-999.99", -99999);
        value("|t:2 a", 200);
        value("|t:0 a:5", 0);
        value("|t:-2 a:0.5", -100);
        value("|t:0.15 a:0.15", 2);
        value("|t:-0.15 a:0.15", -2);
        value("|t:999.99 a:999.99", 99999);
        value("|t:999.99 a:-999.99", -99999);
        value("|t:10 a:100", 99999);
        value("|t:10 a:99.9", 99900);
        value("|t:5| a", 100);
        value("|t:5|u a", 100);
    }

    private static void orderOfCrossings() {
        HashedLearner x = new HashedLearner(4, 0, 0);
        x.cross('b', 'a');
        x.cross('a', 'a');
        x.cross('a', 'b');
        Check.read(x, "|a x:2 y:3 |b z:5 |apple w:7");
        values("three crossings", x, 200, 300, 500, 700,
            1000, 1500, 3500,
            400, 600, 1400, 900, 2100, 4900,
            1000, 1500, 3500,
            100);
    }

    private static void valuesOfCrossings() {
        HashedLearner x = new HashedLearner(4, 0, 0);
        x.cross(' ', ' ');
        Check.read(x, "| a:0.15 b:-0.15 c:999.99 d:-999.99 e:0");
        values("clipped", x, 15, -15, 99999, -99999, 0,
            2, -2, 14999, -14999, 0,
            2, -14999, 14999, 0,
            99999, -99999, 0,
            99999, 0,
            0,
            100);
    }

    private static void indicesOfCrossings() {
        int[] of4 = {3, 5, 10, 12, 10, 12};
        int[] of5 = {3, 5, 26, 28, 26, 28};
        HashedLearner x = new HashedLearner(4, 0, 0);
        x.cross(' ', ' ');
        Check.read(x, "| 3 5");
        indices("4 bits", x, of4);
        x = new HashedLearner(5, 0, 0);
        x.cross(' ', ' ');
        Check.read(x, "| 3 5");
        indices("5 bits", x, of5);
    }

    private static void negativeHash() {
        HashedLearner x = new HashedLearner(5, 0, 0);
        Check.read(x, "| abc ab 1000000007");
        indices("lowest bits", x, 0xb3dd93fa & 31, 0x9bbfd75f & 31, Reference.hashOf("1000000007", 0) & 31, 28);
    }

    private static void mostTerms() {
        HashedLearner x = new HashedLearner(3, 0, 0);
        x.cross('a', 'b');
        x.cross('b', 'a');
        x.cross('a', 'a');
        Check.due("line()", Check.read(x, "1 5|a 1 2 3 4 5 6 7 8|b 9 8 7 6"), 12);
        Check.due("terms()", x.terms(), 12 + 32 + 32 + 36 + 1);
        Check.due("value(112)", x.value(112), 100);
        Check.due("index(112)", x.index(112), 4);
        Check.due("index(113)", x.index(113), -1);
        Check.due("learn()", x.learn(), 0);

        x = new HashedLearner(3, 0, 0);
        x.cross(' ', ' ');
        Check.read(x, "| 1 2 3 4 5 6 7 8 9 10 11 12");
        Check.due("terms() of one letter", x.terms(), 12 + 78 + 1);
    }

    private static void noSuchTerm() {
        HashedLearner x = new HashedLearner(4, 0, 0);
        Check.due("terms() of an empty ring", x.terms(), -1);
        Check.due("index(0) of an empty ring", x.index(0), -1);
        Check.due("value(0) of an empty ring", x.value(0), 0);
        Check.read(x, "| 3:2");
        Check.read(x, "| 5:4 6:6");
        indices("the first", x, 3, 12);
        for (int k : new int[] {2, 3, -1, Integer.MIN_VALUE, Integer.MAX_VALUE}) {
            Check.due("index(" + k + ")", x.index(k), -1);
            Check.due("value(" + k + ")", x.value(k), 0);
        }
        x.learn();
        indices("the second", x, 5, 6, 12);
        values("the second", x, 400, 600, 100);
        x.learn();
        Check.due("terms() after the last", x.terms(), -1);
        Check.due("index(0) after the last", x.index(0), -1);
        Check.due("value(0) after the last", x.value(0), 0);
    }

    public static void main(String[] args) {
        numbers();
        orderOfCrossings();
        valuesOfCrossings();
        indicesOfCrossings();
        negativeHash();
        mostTerms();
        noSuchTerm();
        Check.end();
    }
}
