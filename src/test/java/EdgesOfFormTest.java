/** The document's sentences on a line and its form that name an edge, each with a test of its own. */
public final class EdgesOfFormTest {
    private static HashedLearner learner() {
        return new HashedLearner(4, 0, 0);
    }

    private static void reads(int due, String... lines) {
        for (String line : lines) {
            HashedLearner x = learner();
            Check.due("line() of '" + line + "'", Check.read(x, line), due);
            Check.due("waiting() after '" + line + "'", x.waiting(), due < 0 ? 0 : 1);
            Check.due("warnings() after '" + line + "'", x.warnings(), due < 0 ? 1 : 0);
        }
    }

    private static void firstValue(String line, int due) {
        HashedLearner x = learner();
        Check.read(x, line);
        Check.due("value(0) of '" + line + "'", x.value(0), due);
    }

    /** A first example moves the constant's slot by its label alone: the sum is the label's square. */
    private static void label(String head, int hundredths) {
        HashedLearner x = learner();
        Check.learn(x, head + "|");
        Check.due("the square of the label in '" + head + "'", x.sum(12), (long) hundredths * hundredths);
        Check.due("the sign of the label in '" + head + "'", Integer.signum(x.weight(12)), Integer.signum(hundredths));
    }

    private static void lineOfHundred() {
        Check.sentence("THE LINE that is being typed has at most 100 characters");
        HashedLearner x = learner();
        String name = "n".repeat(97);
        Check.type(x, "| " + name);
        Check.due("the 100th character", x.write('o'), true);
        Check.due("the 101st character", x.write('p'), false);
        Check.due("line()", x.line(), 1);
        Check.due("hash(0), of 98 characters", x.hash(0), Reference.hashOf(name + "o", 0));
        reads(0, " ".repeat(99) + "|", "|" + "t".repeat(99), "|" + " ".repeat(99));
        reads(1, "|   " + "n".repeat(96), "|   " + "n".repeat(94) + ":5", "|t" + " ".repeat(97) + "a");
        reads(-1, "|" + "n".repeat(98) + ":", "|" + "n".repeat(97) + ":-", "|" + "n".repeat(96) + ":5.", " ".repeat(98) + "1.", " ".repeat(99) + "1");
        reads(-1, "1".repeat(100), " ".repeat(100), "|".repeat(100), ":".repeat(100), "|" + ":".repeat(99));
    }

    private static void codes() {
        Check.sentence("codes 32 .. 126");
        HashedLearner x = learner();
        Check.type(x, "|");
        for (int code : new int[] {0, 9, 10, 13, 31, 127, 128, 160, 255, 256, 256 + 32, 65535}) {
            Check.due("write of " + code, x.write((char) code), false);
        }
        Check.due("write of 32", x.write(' '), true);
        Check.due("write of 126", x.write('~'), true);
        Check.due("line()", x.line(), 1);
        Check.due("hash(0)", x.hash(0), Reference.hashOf("~", 0));
    }

    private static void numbers() {
        Check.sentence("A NUMBER is written as an optional -, 1 .. 3 digits, and optionally a point and 1 or 2 digits");
        String[] numbers = {"0", "-0", "9", "99", "999", "000", "-999", "0.0", "0.00", "00.5", "999.9", "999.99", "-999.99", "-0.01"};
        for (String number : numbers) {
            reads(0, number + "|", number + " 5|", "|t:" + number);
            reads(1, "| a:" + number, "|t:" + number + " a:" + number);
        }
        String[] others = {
            "-", ".", "-.", ".5", "-.5", "5.", "-5.", "1000", "0000", "-1000", "0.000", "1.234", "--5", "+5", "5-", "5.-1", "-5.-1",
            "1.2.3", "1..2", "1,5", "5a", "a5", "a", "1a.5", "1.a", "1.5a", "0x5", "1e1", "/", "1/", "1:", ":1", "1.:", "1./",
        };
        for (String other : others) {
            reads(-1, other + "|", other + " 5|", "|t:" + other, "| a:" + other, "|t a:" + other, "| a b:" + other + " c");
        }
        reads(-1, "|t:", "| a:", "|t: a", "| a: b");
    }

    private static void hundredths() {
        Check.sentence("it stands for so many hundredths (-0.5 for -50, 12 for 1200)");
        String[] numbers = {"-0.5", "12", "0.05", "0.50", "0.5", "0.01", "-0.01", "007", "00.7", "0", "-0", "999.99", "-999.99", "999.9"};
        int[] due = {-50, 1200, 5, 50, 50, 1, -1, 700, 70, 0, 0, 99999, -99999, 99990};
        for (int n = 0; n < numbers.length; n++) {
            firstValue("| a:" + numbers[n], due[n]);
            firstValue("|t:" + numbers[n] + " a", due[n]);
            label(numbers[n], due[n]);
        }
    }

    private static void namespaces() {
        Check.sentence("then one or more NAMESPACES, at most 4");
        reads(-1, "", " ", "1", "1 5", "a b", "t:1 a", "   ");
        reads(0, "|", "||", "|||", "||||", "|a|b|c|d", "1 5||||", "| | | | ");
        reads(-1, "|||||", "||||||", "|a|b|c|d|e", "|a|b|c|d|", "1|||||", "| | | | | ", "| a| b| c| d| e");
    }

    private static void untilTheNext() {
        Check.sentence("each a | and the characters up to the next | or the end");
        HashedLearner x = learner();
        Check.due("line()", Check.read(x, "|5 1|7 1 2| 9"), 4);
        int[] hashes = {6, 8, 9, 9};
        for (int k = 0; k < hashes.length; k++) {
            Check.due("hash(" + k + ")", x.hash(k), hashes[k]);
        }
    }

    private static void parts() {
        Check.sentence("Parts of a head or a namespace are the longest runs of characters other than spaces");
        HashedLearner x = learner();
        Check.due("line()", Check.read(x, "|  ab  c |  d"), 3);
        Check.due("hash(0) of ab", x.hash(0), Reference.hashOf("ab", 0));
        Check.due("hash(1) of c", x.hash(1), Reference.hashOf("c", 0));
        Check.due("hash(2) of d", x.hash(2), Reference.hashOf("d", 0));
        label("15", 1500);
        label("5 1", 500);
    }

    private static void spacesAround() {
        Check.sentence("spaces may stand at its beginning and end");
        label("  3  ", 300);
        reads(0, " |", "    |", " 1|", "1 |", "  1  5  |", "| ", "|   ", "|t ", "|t   ", "1 |t |u ");
        reads(1, "| a ", "|  a  ", "|t  a  ", "  1  |t  a  |  ");
    }

    private static void head() {
        Check.sentence("The head has 0 parts (no label), 1 part, a number (the LABEL), or 2 parts");
        reads(0, "|", "1|", "1 5|");
        reads(-1, "1 5 5|", "1 1 1|", "1 2 3 4|", "  1  2  3  |", "x|", "1 x|", "x 1|");
        HashedLearner x = learner();
        Check.learn(x, "  |");
        Check.due("no label: report(-1)", x.report(-1), 0);
        Check.learn(x, "0|");
        Check.due("the label 0: report(-1)", x.report(-1), 1);
    }

    private static void importance() {
        Check.sentence("a label and the IMPORTANCE, one digit 1 .. 5 (otherwise it is 1)");
        for (int n = 1; n <= 5; n++) {
            HashedLearner x = learner();
            Check.learn(x, "1 " + n + "|");
            Check.due("loss() with importance " + n, x.loss(), 100L * n);
        }
        HashedLearner x = learner();
        Check.learn(x, "1|");
        Check.due("loss() without importance", x.loss(), 100);
        x = learner();
        x.save(0);
        for (int n = 1; n <= 20; n++) {
            x.load(0);
            Check.due("line()", Check.read(x, "9 5|:"), -1);
            Check.learn(x, "1|");
            Check.due("loss() without importance, where others had one", x.loss(), 600 * n - 500);
            x.load(0);
            Check.learn(x, "1 5|");
            Check.due("loss()", x.loss(), 600 * n);
        }
        reads(-1, "1 0|", "1 6|", "1 7|", "1 8|", "1 9|", "1 /|", "1 :|", "1 11|", "1 05|", "1 50|", "1 -1|", "1 1.0|", "1 5.|", "1 a|", "1 5a|");
    }

    private static void titles() {
        Check.sentence("If the character right after the | of a namespace is there and is no space, the first part is its TITLE, else it has none");
        String[] lines = {"|5 1", "| 5 1", "|  5 1", "|5| 1", "||5 1", "| |5 1", "|5 |5| 1", "5|5 1"};
        int[] features = {1, 2, 2, 1, 1, 1, 1, 1};
        int[] hashes = {6, 5, 5, 1, 6, 6, 1, 6};
        for (int n = 0; n < lines.length; n++) {
            HashedLearner x = learner();
            Check.due("line() of '" + lines[n] + "'", Check.read(x, lines[n]), features[n]);
            Check.due("hash(0) of '" + lines[n] + "'", x.hash(0), hashes[n]);
        }
        reads(0, "|", "||", "|5", "|5:5");
    }

    private static void features() {
        Check.sentence("the other parts are FEATURES, at most 12 in the whole line");
        reads(0, "|t");
        reads(11, "| a b c d e f g h i j k");
        reads(12, "| a b c d e f g h i j k l", "|t a b c d e f g h i j k l", "|t a b c|u d e f|v g h i|w j k l", "|t|u|v| a b c d e f g h i j k l",
            "| a:1 b:1 c:1 d:1 e:1 f:1 g:1 h:1 i:1 j:1 k:1 l:1", "| a a a a a a a a a a a a");
        reads(-1, "| a b c d e f g h i j k l m", "|t a b c d e f g h i j k l m", "|t a b c|u d e f|v g h i|w j k l m",
            "|t a b c d e f g h i j k l|u m", "| a|b c d e f g h i j k l m n", "| a b c d e f g h i j k l m n o p q r s t u v w x y z");
    }

    private static void names() {
        Check.sentence("A title and a feature are written NAME or NAME:NUMBER; a NAME is one or more characters other than :");
        reads(-1, "|:", "|:5", "|::", "|:a", "|a::5", "|a:5:", "|a:5:5", "|a:b", "|:5 a", "|a: 5", "|a :5");
        reads(-1, "| :", "| :5", "| ::", "| :a", "| a::5", "| a:5:", "| a:5:5", "| a:b", "| :5 a", "| a: 5", "| a :5", "|t :", "| a : b");
        for (char c = 33; c <= 126; c++) {
            if (c != ':' && c != '|') {
                reads(0, "|" + c, "|" + c + ":5");
                reads(1, "| " + c, "| " + c + ":5", "|t " + c, "|" + c + " " + c);
            }
        }
    }

    private static void noNumber() {
        Check.sentence("The number of a title is the SCALE, that of a feature its AMOUNT; where there is none, it is 100");
        firstValue("| a", 100);
        firstValue("| a:3", 300);
        firstValue("|t a", 100);
        firstValue("|t a:3", 300);
        firstValue("|t:2 a", 200);
        firstValue("|t:2 a:3", 600);
        firstValue("|t:2| a", 100);
        firstValue("|t:2|u a", 100);
        firstValue("|t:2|u a:3", 300);
        firstValue("| b:7|u:0 a:3", 700);
    }

    private static void malformed() {
        Check.sentence("A line that is not of this form is MALFORMED");
        reads(12, "1.5 5 |t:2 a b c d|u:2 e f g h|v:2 i j|w k l");
        reads(-1, "1.5 5  t:2 a b c d u:2 e f g h v:2 i j w k l", "1.5 5 6 |t:2 a b c d|u:2 e f g h|v:2 i j|w k l",
            "1.5 6 |t:2 a b c d|u:2 e f g h|v:2 i j|w k l", "1.555 5 |t:2 a b c d|u:2 e f g h|v:2 i j|w k l",
            "1.5 5 |t:2 a b c d|u:2 e f g h|v:2 i j|w k|l", "1.5 5 |t:2 a b c d|u:2 e f g h|v:2 i j|w k l m",
            "1.5 5 |t:2 a b c d|u: e f g h|v:2 i j|w k l", "1.5 5 |t:2 a b c d|:2 e f g h|v:2 i j|w k l",
            "1.5 5 |t:2 a b c d|u:2 e f g h|v:2 i j|w k l:", "1.5 5 |t:2 a b c d|u:2 e f g h|v:2 i j|w k :l");
    }

    private static void refusedWrites() {
        Check.sentence("write: false, changing nothing, if c is not 32 .. 126 or 100 are there");
        HashedLearner x = learner();
        Check.type(x, "| 1");
        Check.due("write of 31", x.write((char) 31), false);
        Check.due("write of 127", x.write((char) 127), false);
        Check.type(x, "2" + " ".repeat(96));
        Check.due("write of 3 when 100 are there", x.write('3'), false);
        Check.due("write of | when 100 are there", x.write('|'), false);
        Check.due("write of 127 when 100 are there", x.write((char) 127), false);
        Check.due("line()", x.line(), 1);
        Check.due("hash(0)", x.hash(0), 12);
        Check.type(x, "| 4" + " ".repeat(97));
        Check.due("write on the next line when 100 are there", x.write('5'), false);
        Check.due("line()", x.line(), 1);
    }

    private static void fullRing() {
        Check.sentence("line: -2, changing nothing (the line stays), if the ring holds 4 examples");
        HashedLearner x = learner();
        for (int n = 1; n <= 4; n++) {
            Check.due("line() with " + (n - 1) + " waiting", Check.read(x, "1| " + n), 1);
        }
        Check.type(x, "1| 5");
        for (int n = 0; n < 3; n++) {
            Check.due("line() with 4 waiting", x.line(), -2);
            Check.due("waiting()", x.waiting(), 4);
            Check.due("warnings()", x.warnings(), 0);
        }
        for (int n = 1; n <= 3; n++) {
            Check.due("hash(0) of the one that waits first", x.hash(0), n);
            x.learn();
        }
        Check.due("line() of the line that stayed", x.line(), 1);
        x.learn();
        Check.due("hash(0) of the line that stayed", x.hash(0), 5);
    }

    private static void fullRingBeforeForm() {
        Check.sentence("line: -2, changing nothing, also of a malformed or an empty line");
        HashedLearner x = learner();
        for (int n = 0; n < 4; n++) {
            Check.read(x, "|");
        }
        Check.due("line() of an empty line", x.line(), -2);
        Check.due("line() of a malformed line", Check.read(x, ":"), -2);
        Check.due("warnings()", x.warnings(), 0);
        x.learn();
        Check.due("line() of the malformed line that stayed", x.line(), -1);
        Check.due("warnings()", x.warnings(), 1);
    }

    private static void emptyAfterwards() {
        Check.sentence("line: Otherwise the line is empty afterwards, and: -1 if it was malformed (a warning)");
        HashedLearner x = learner();
        Check.due("line() of the empty line", x.line(), -1);
        Check.due("line() of a malformed one", Check.read(x, "| 1 :"), -1);
        Check.due("line() after it", Check.read(x, "| 2"), 1);
        Check.due("hash(0)", x.hash(0), 2);
        Check.due("line() of nothing after an example", x.line(), -1);
        Check.due("warnings()", x.warnings(), 3);
        Check.due("waiting()", x.waiting(), 1);
    }

    private static void malformedLeavesTheRing() {
        Check.sentence("line: a malformed line brings nothing into the ring, and changes nothing there");
        HashedLearner x = learner();
        for (int n = 1; n <= 3; n++) {
            Check.read(x, n + " " + n + "| " + n + ":" + n);
            Check.due("line()", Check.read(x, "9 5|t:9 7:9 8:9 9:"), -1);
        }
        Check.due("line() of the fourth", Check.read(x, "| 4"), 1);
        long loss = 0;
        for (int n = 1; n <= 3; n++) {
            Check.due("terms()", x.terms(), 2);
            Check.due("hash(0)", x.hash(0), n);
            Check.due("value(0)", x.value(0), 100 * n);
            int over = x.learn() - 100 * n;
            loss += n * (long) (over * over / 100);
            Check.due("loss()", x.loss(), loss);
        }
        Check.due("hash(0) of the fourth", x.hash(0), 4);
        x.learn();
        Check.due("loss() without a label", x.loss(), loss);
    }

    private static void lastInTheRing() {
        Check.sentence("line: else its example is the last in the ring, and the answer is the number of its features");
        HashedLearner x = learner();
        Check.due("line() without features", Check.read(x, "|t"), 0);
        Check.due("line() with one", Check.read(x, "| 1"), 1);
        Check.due("line() with 12", Check.read(x, "| 1 2 3 4 5 6|t 7 8 9 10 11 12"), 12);
        Check.due("terms() of the first", x.terms(), 1);
        x.learn();
        Check.due("terms() of the second", x.terms(), 2);
        x.learn();
        Check.due("terms() of the last", x.terms(), 13);
    }

    private static void warnings() {
        Check.sentence("warnings: How many warnings there were");
        HashedLearner x = learner();
        Check.due("warnings() at first", x.warnings(), 0);
        x.write((char) 0);
        x.cross(':', '|');
        x.load(0);
        x.save(2);
        x.learn();
        Check.due("warnings() after refused calls", x.warnings(), 0);
        for (int n = 1; n <= 500; n++) {
            x.line();
        }
        Check.due("warnings() after 500 malformed lines", x.warnings(), 500);
    }

    public static void main(String[] args) {
        lineOfHundred();
        codes();
        numbers();
        hundredths();
        namespaces();
        untilTheNext();
        parts();
        spacesAround();
        head();
        importance();
        titles();
        features();
        names();
        noNumber();
        malformed();
        refusedWrites();
        fullRing();
        fullRingBeforeForm();
        emptyAfterwards();
        malformedLeavesTheRing();
        lastInTheRing();
        warnings();
        Check.end();
    }
}
