/** Promises 4, 8 and 20: line, waiting, warnings. */
public final class LineTest {
    private static final String[] MALFORMED = {
        "", " ", "1", "1 2", "a",
        "1 2 3|", "1 0|", "1 6|", "1 12|", "1 01|", "1 a|", "1 -1|", "1 1.0|", "1 .|", "1 /|", "1 5 5|",
        "x|", "1234|", "1.|", ".5|", "1.234|", "--1|", "-|", "-.5|", "+1|", "1-|", "1.2.3|", "1:2|", "1,5|", "- 1|", "1. 5|",
        "-1234|", "1.-5|", "0x1|", "1e2|", ".|", ":|", "/|", "a 1|",
        "|||||", "|a|b|c|d|e", "| a | b | c | d |", "1|||||",
        "|:", "|:1", "|a:", "|a:x", "|a:1:2", "|::", "|a::1", "|a:1234 b", "|a:1. b", "|a: 1", "|:a b", "|a:1: b",
        "| :", "| a:", "| :1", "| a::1", "| a:1:2", "| a:1234", "| a:1.", "| a:.5", "| a:+1", "| a:-", "| a:--1", "| a:1.234",
        "| a:1 b:", "| a b c:x d", "|t a : b", "|a b |c :",
        "| a b c d e f g h i j k l m", "|t a b c d|u e f g h|v i j k l|w m", "|t a b c d e f g h i j k l m n o p",
    };

    private static void malformed() {
        for (String text : MALFORMED) {
            HashedLearner x = new HashedLearner(4, 0, 0);
            Check.due("line() of '" + text + "'", Check.read(x, text), -1);
            Check.due("warnings() after it", x.warnings(), 1);
            Check.due("waiting() after it", x.waiting(), 0);
            Check.due("peek() after it", x.peek(), HashedLearner.NONE);
            Check.due("line() after it: the line is empty", Check.read(x, "| a b"), 2);
            Check.due("warnings() after that", x.warnings(), 1);
        }
    }

    private static void wellFormed(String text, int features) {
        HashedLearner x = new HashedLearner(4, 0, 0);
        Check.due("line() of '" + text + "'", Check.read(x, text), features);
        Check.due("warnings()", x.warnings(), 0);
        Check.due("waiting()", x.waiting(), 1);
        Check.due("terms()", x.terms(), features + 1);
        Check.due("line() of the empty line after it", x.line(), -1);
        Check.due("waiting() after that", x.waiting(), 1);
    }

    private static void wellFormed() {
        for (String text : new String[] {
            "|", "||", "|||", "||||", " | ", "   |", "1|", "1 |", " 1|", "  1  |", "1 5|", " 1   5  |", "1 1|", "-0|", "000|",
            "000.00|", "-999.99|", "12.3|", "|a", "|a ", "|a:2", "|a:-999.99  ", "|a|b|c|d", "|a | |c|", "||  ", "|-:0",
        }) {
            wellFormed(text, 0);
        }
        for (String text : new String[] {
            "| a", "|  a  ", "|t a", "|t:2 a", "|t   a:1", "| a:-0.5", "| 1.5", "| -1:-1", "| a,b;c=d", "|t| a", "1 2|a b|c|d", "| t|t",
            "|||| a",
        }) {
            wellFormed(text, 1);
        }
        wellFormed("| a b c d e f g h i j k l", 12);
        wellFormed("|t a b c|t d e f|t g h i|t j k l", 12);
        wellFormed("| a a a", 3);
    }

    private static void fullRing() {
        HashedLearner x = new HashedLearner(4, 0, 0);
        for (int n = 1; n <= 4; n++) {
            Check.due("line()", Check.read(x, "| " + n + ":" + n), 1);
            Check.due("waiting()", x.waiting(), n);
        }
        Check.type(x, "| 5:5 ");
        Check.due("line() on a full ring", x.line(), -2);
        Check.due("line() again", x.line(), -2);
        Check.due("write on the line that stayed", x.write('6'), true);
        Check.due("warnings()", x.warnings(), 0);
        for (int n = 1; n <= 3; n++) {
            Check.due("the oldest is first: value(0)", x.value(0), 100 * n);
            x.learn();
        }
        Check.due("waiting()", x.waiting(), 1);
        Check.due("line() of the line that stayed", x.line(), 2);
        Check.due("value(0) of the last old one", x.value(0), 400);
        x.learn();
        Check.due("value(0) of the new one", x.value(0), 500);
        Check.due("hash(1) of the new one", x.hash(1), 6);
        x.learn();
        Check.due("waiting()", x.waiting(), 0);
    }

    private static void malformedOnFullRing() {
        HashedLearner x = new HashedLearner(4, 0, 0);
        for (int n = 0; n < 4; n++) {
            Check.read(x, "|");
        }
        Check.due("line() of a malformed one on a full ring", Check.read(x, "x"), -2);
        Check.due("warnings()", x.warnings(), 0);
        x.learn();
        Check.due("line() with a place", x.line(), -1);
        Check.due("warnings()", x.warnings(), 1);
        Check.due("waiting()", x.waiting(), 3);
    }

    private static void warningsAdd() {
        HashedLearner x = new HashedLearner(4, 0, 0);
        for (int n = 1; n <= 100; n++) {
            Check.due("line()", Check.read(x, "x"), -1);
            Check.due("warnings()", x.warnings(), n);
        }
    }

    public static void main(String[] args) {
        malformed();
        wellFormed();
        fullRing();
        malformedOnFullRing();
        warningsAdd();
        Check.end();
    }
}
