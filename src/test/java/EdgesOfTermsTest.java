/** The document's sentences on hashes, crossings and terms that name an edge, each with a test of its own. */
public final class EdgesOfTermsTest {
    private static final int[] FAR = {Integer.MIN_VALUE, -100, -2, -1, 1000, 65536, Integer.MAX_VALUE};

    private static HashedLearner learner() {
        return new HashedLearner(5, 0, 0);
    }

    private static void hash(String line, int due) {
        HashedLearner x = learner();
        Check.read(x, line);
        Check.due("hash(0) of '" + line + "'", x.hash(0), due);
    }

    private static void values(HashedLearner x, int... due) {
        Check.due("terms()", x.terms(), due.length);
        for (int k = 0; k < due.length; k++) {
            Check.due("value(" + k + ")", x.value(k), due[k]);
        }
    }

    private static void indices(HashedLearner x, int... due) {
        Check.due("terms()", x.terms(), due.length);
        for (int k = 0; k < due.length; k++) {
            Check.due("index(" + k + ")", x.index(k), due[k]);
        }
    }

    private static void nineDigits() {
        Check.sentence("if the name is 1 .. 9 digits (0 in front or not; with more it is as others), the number that they write + s");
        hash("| 0", 0);
        hash("| 9", 9);
        hash("| 10", 10);
        hash("| 00", 0);
        hash("| 09", 9);
        hash("| 000000000", 0);
        hash("| 000000001", 1);
        hash("| 100000000", 100000000);
        hash("| 999999999", 999999999);
        hash("| 0000000000", -773206437);
        hash("| 0123456789", 1891213601);
        hash("| 1234567890", 839148365);
        hash("| 11111111111", -408882244);
        hash("| " + "9".repeat(98), 1762833719);
        hash("| 7:3", 7);
        hash("|10 7", 17);
        hash("|010:2 07:3", 17);
        hash("|0123456789 1", 1891213602);
    }

    private static void nearlyDigits() {
        Check.sentence("if the name is digits; otherwise, over its characters' codes");
        hash("| 1/", -438652945);
        hash("| /", 1248550479);
        hash("| 12a", 837690667);
        hash("| a1", 882153338);
        hash("| -1", 1908024458);
        hash("| 1.5", -269050607);
        hash("| 999999999a", 511328449);
    }

    private static void wrappingNumber() {
        Check.sentence("the number that they write + s, wrapping");
        hash("|e 0", 1701593959);
        hash("|e 445889688", Integer.MAX_VALUE);
        hash("|e 445889689", Integer.MIN_VALUE);
        hash("|e 999999999", -1593373338);
        hash("|999999999 999999999", 1999999998);
    }

    private static void blocks() {
        Check.sentence("For each whole block of four codes; the 1 .. 3 codes that are left, if any");
        int[] due = {
            1009084850, -1681926305, -1277324294, 1139631978, -392455434, 1635893381, -2009294074,
            1239272644, 1108608752, -2003667055, 1597711839, -1552990937, -233695717,
        };
        int[] dueWithSeed = {
            1374314456, 2021260250, -433716186, 893017187, -1243504974, 1579752122, 1113025207,
            -257505991, 776213802, 1954177180, 1760044125, -1964117296, -1933679333,
        };
        for (int n = 1; n <= 13; n++) {
            String name = "abcdefghijklm".substring(0, n);
            hash("| " + name, due[n - 1]);
            hash("|1234 " + name, dueWithSeed[n - 1]);
        }
        hash("| ~", -1727679682);
        hash("| ~~~~", -40694012);
        hash("| " + "~".repeat(98), -1821179059);
    }

    private static void seeds() {
        Check.sentence("A namespace's SEED is the hash of its title's name with the seed 0; without a title the seed is 0");
        HashedLearner x = learner();
        Check.read(x, "|5:9 1 |7 1 | 1 |a:0.5 1");
        int[] due = {6, 8, 1, 1009084851};
        for (int k = 0; k < due.length; k++) {
            Check.due("hash(" + k + ")", x.hash(k), due[k]);
        }
    }

    private static void letters() {
        Check.sentence("its LETTER the first character of that; without a title the letter is a space");
        HashedLearner x = learner();
        x.cross('a', ' ');
        x.cross('~', 'b');
        Check.read(x, "|ab:2 x:3 |~a y:5 | z:7 |ba w:11");
        values(x, 600, 500, 700, 1100, 4200, 5500, 100);
    }

    private static void clips() {
        Check.sentence("CLIP(v, m) is v, but -m if v is less than that, and m if it is more");
        HashedLearner x = learner();
        Check.read(x, "|t:2 a:499.99 b:500|u c:999.98 d:999.99|v:-2 e:499.99 f:500|w:-1 g:999.98 h:999.99");
        values(x, 99998, 99999, 99998, 99999, -99998, -99999, -99998, -99999, 100);
    }

    private static void featureValue() {
        Check.sentence("the VALUE CLIP(amount * scale / 100, 99999)");
        HashedLearner x = learner();
        Check.read(x, "|t:10 a:99.99 b:100 c:-99.99 d:-100 e:999.99 f:-999.99");
        values(x, 99990, 99999, -99990, -99999, 99999, -99999, 100);
        x.learn();
        Check.read(x, "|t:-999.99 a:999.99 b:-999.99 c:1 d:-1 e:0 f:0.01");
        values(x, -99999, 99999, -99999, 99999, 0, -999, 100);
        x.learn();
        Check.read(x, "|t:0.09 a:0.11 b:0.12 c:-0.11 d:-0.12 |u:3 e:333.33 f:333.34");
        values(x, 0, 1, 0, -1, 99999, 99999, 100);
        x.learn();
        Check.read(x, "|t:2 a:499.99 b:500 c:-499.99 d:-500");
        values(x, 99998, 99999, -99998, -99999, 100);
        x.learn();
        Check.read(x, "|t:500 a:500 b:-500 |u:655.36 c:655.36 d:-655.36");
        values(x, 99999, -99999, 99999, -99999, 100);
    }

    private static void crossingValue() {
        Check.sentence("the value CLIP(value of f * value of g / 100, 99999)");
        HashedLearner x = learner();
        x.cross('a', 'b');
        Check.read(x, "|a 1:2 2:-2 |b 3:499.99 4:500 5:0 6:0.01");
        values(x, 200, -200, 49999, 50000, 0, 1, 99998, 99999, 0, 2, -99998, -99999, 0, -2, 100);
        x.learn();
        Check.read(x, "|a 1:999.99 2:-0.5 |b 3:999.99 4:-999.99 5:0.01 6:0.02");
        values(x, 99999, -50, 99999, -99999, 1, 2, 99999, -99999, 999, 1999, -49999, 49999, 0, -1, 100);
        x.learn();
        Check.read(x, "|a 1:500 2:655.36 |b 3:500 4:-500 5:655.36");
        values(x, 50000, 65536, 50000, -50000, 65536, 99999, -99999, 99999, 99999, -99999, 99999, 100);
    }

    private static void sameLetter() {
        Check.sentence("if a = b, only those g that are f or come after f");
        HashedLearner x = learner();
        x.cross('a', 'a');
        Check.read(x, "|a 1:2 2:3 |b 3:5 |a 4:7");
        values(x, 200, 300, 500, 700, 400, 600, 1400, 900, 2100, 4900, 100);
        indices(x, 19, 20, 6, 22, 26, 29, 31, 8, 10, 20, 28);
        x = learner();
        x.cross(' ', ' ');
        Check.read(x, "| 1:2");
        values(x, 200, 400, 100);
    }

    private static void otherLetters() {
        Check.sentence("for each feature f of a namespace with the letter a, for each feature g of one with the letter b");
        HashedLearner x = learner();
        x.cross('b', 'a');
        Check.read(x, "|a 1:2 |b 2:3 |a 3:5 |b 4:7");
        values(x, 200, 300, 500, 700, 600, 1500, 1400, 3500, 100);
        x = learner();
        x.cross('a', 'b');
        x.cross('b', 'b');
        x.cross('A', 'a');
        Check.read(x, "|a 1:2 |c 2:3 | 3:5");
        values(x, 200, 300, 500, 100);
    }

    private static void lastTerm() {
        Check.sentence("Last, a term with the hash 11650396 and the value 100");
        int[] due = {4, 12, 28};
        for (int bits = 3; bits <= 5; bits++) {
            HashedLearner x = new HashedLearner(bits, 0, 0);
            x.cross('t', 't');
            x.cross(' ', 't');
            Check.read(x, "|t:5");
            values(x, 100);
            indices(x, due[bits - 3]);
            Check.due("hash(0): it is no feature", x.hash(0), 0);
        }
    }

    private static void lowestBits() {
        Check.sentence("The INDEX of a term is its hash mod 2^BITS (its lowest BITS bits)");
        int[] of3 = {7, 0, 7, 7, 2, 7, 7, 4};
        int[] of4 = {15, 0, 15, 7, 10, 15, 15, 12};
        int[] of5 = {31, 0, 31, 7, 26, 31, 31, 28};
        for (int bits = 3; bits <= 5; bits++) {
            HashedLearner x = new HashedLearner(bits, 0, 0);
            Check.read(x, "|e 445889688 445889689| 999999999 999999975 abc ab 31");
            indices(x, bits == 3 ? of3 : bits == 4 ? of4 : of5);
        }
    }

    private static void crossingIndex() {
        Check.sentence("a term with the hash (hash of f * 16777619) xor (hash of g)");
        HashedLearner x = learner();
        x.cross(' ', 'e');
        x.cross('e', ' ');
        Check.read(x, "|e 445889689 0| 1 2");
        indices(x, 0, 7, 1, 2, 19, 20, 6, 1, 1, 2, 4, 7, 28);
    }

    private static void threeCrossings() {
        Check.sentence("CROSSINGS, at most 3; cross: False, changing nothing, if there are 3");
        HashedLearner x = learner();
        Check.due("the first", x.cross('a', 'b'), true);
        Check.due("the second", x.cross('c', 'd'), true);
        Check.due("the third", x.cross('e', 'f'), true);
        Check.due("the fourth", x.cross('g', 'h'), false);
        Check.due("the fourth again", x.cross('g', 'h'), false);
        Check.read(x, "|a 1|b 2|g 3|h 4");
        Check.due("terms()", x.terms(), 6);
        x.learn();
        Check.read(x, "|c 1|d 2|e 3|f 4");
        Check.due("terms()", x.terms(), 7);
    }

    private static void wrongLetters() {
        Check.sentence("cross: False, changing nothing, if a or b is not 32 .. 126 or is : or |");
        HashedLearner x = learner();
        for (char c : new char[] {0, 9, 31, 127, 128, 255, 256 + 32, 256 + 'a', 65535, ':', '|'}) {
            Check.due("cross(" + (int) c + ", a)", x.cross(c, 'a'), false);
            Check.due("cross(a, " + (int) c + ")", x.cross('a', c), false);
            Check.due("cross(" + (int) c + " twice)", x.cross(c, c), false);
        }
        Check.due("cross(32, 126)", x.cross(' ', '~'), true);
        Check.due("cross(9, ;)", x.cross('9', ';'), true);
        Check.due("cross({, })", x.cross('{', '}'), true);
        Check.read(x, "| 1|~ 2|a 3");
        Check.due("terms()", x.terms(), 5);
    }

    private static void thereAlready() {
        Check.sentence("cross: False, changing nothing, if there is that crossing already ((b, a) is another one)");
        HashedLearner x = learner();
        Check.due("cross(a, b)", x.cross('a', 'b'), true);
        Check.due("cross(a, b) again", x.cross('a', 'b'), false);
        Check.due("cross(b, a)", x.cross('b', 'a'), true);
        Check.due("cross(b, a) again", x.cross('b', 'a'), false);
        Check.due("cross(a, b) once more", x.cross('a', 'b'), false);
        Check.due("cross(a, a): refused ones took no place", x.cross('a', 'a'), true);
        Check.read(x, "|a 1:2|b 2:3");
        values(x, 200, 300, 600, 600, 400, 100);
    }

    private static void afterAnExample() {
        Check.sentence("cross: False, changing nothing, if some line was read to an example");
        HashedLearner x = learner();
        Check.due("cross(a, b)", x.cross('a', 'b'), true);
        Check.read(x, "|");
        Check.due("cross with an example in the ring", x.cross('a', 'a'), false);
        x.learn();
        Check.due("cross when it has left", x.cross('a', 'a'), false);
        x.save(0);
        x.load(0);
        Check.due("cross after load", x.cross('a', 'a'), false);
        Check.read(x, "|a 1|b 2");
        Check.due("terms()", x.terms(), 4);
    }

    private static void afterAMalformedLine() {
        Check.sentence("cross: some line was read to an example (a malformed one is none)");
        HashedLearner x = learner();
        Check.due("line() of nothing", x.line(), -1);
        Check.due("cross(a, b)", x.cross('a', 'b'), true);
        Check.due("line()", Check.read(x, "|a 1|b 2:"), -1);
        Check.due("cross(b, a)", x.cross('b', 'a'), true);
        Check.type(x, "|a 1|b 2");
        Check.due("cross(b, b) before line()", x.cross('b', 'b'), true);
        Check.due("line()", x.line(), 2);
        Check.due("terms()", x.terms(), 6);
    }

    private static void spaceForNoTitle() {
        Check.sentence("cross: A space stands for namespaces without a title");
        HashedLearner x = learner();
        x.cross(' ', ' ');
        x.cross('a', ' ');
        Check.read(x, "| 1:2|a 2:3| 3:5");
        values(x, 200, 300, 500, 400, 1000, 2500, 600, 1500, 100);
    }

    private static void countOfTerms() {
        Check.sentence("terms: How many terms the first example of the ring has; -1 if there is none");
        HashedLearner x = learner();
        Check.due("terms() at first", x.terms(), -1);
        x.cross('a', 'a');
        x.cross('a', 'b');
        x.cross('b', 'a');
        Check.read(x, ":");
        Check.due("terms() after a malformed line", x.terms(), -1);
        Check.read(x, "|");
        Check.read(x, "|a 1 2 3 4 5 6 7 8|b 1 2 3 4");
        Check.due("terms() of the least example", x.terms(), 1);
        x.learn();
        Check.due("terms() of the greatest example", x.terms(), 12 + 36 + 32 + 32 + 1);
        Check.due("value of its last term", x.value(112), 100);
        Check.due("index of its last term", x.index(112), 28);
        Check.due("index behind it", x.index(113), -1);
        x.learn();
        Check.due("terms() of the empty ring", x.terms(), -1);
    }

    private static void indexOfNone() {
        Check.sentence("index: The index of term k (from 0) of the first example of the ring; -1 if there is none");
        HashedLearner x = learner();
        Check.due("index(0) at first", x.index(0), -1);
        Check.read(x, "| 3 4");
        Check.read(x, "| 5 6 7 8");
        Check.due("index(0)", x.index(0), 3);
        Check.due("index(2)", x.index(2), 28);
        Check.due("index(3)", x.index(3), -1);
        for (int k : FAR) {
            Check.due("index(" + k + ")", x.index(k), -1);
        }
        x.learn();
        x.learn();
        Check.due("index(0) of the empty ring", x.index(0), -1);
    }

    private static void valueOfNone() {
        Check.sentence("value: The value of term k of the first example of the ring; 0 if there is none");
        HashedLearner x = learner();
        Check.due("value(0) at first", x.value(0), 0);
        Check.read(x, "| 3:3 4:4");
        Check.read(x, "| 5:5 6:6 7:7 8:8");
        Check.due("value(0)", x.value(0), 300);
        Check.due("value(2)", x.value(2), 100);
        Check.due("value(3)", x.value(3), 0);
        for (int k : FAR) {
            Check.due("value(" + k + ")", x.value(k), 0);
        }
        x.learn();
        x.learn();
        Check.due("value(0) of the empty ring", x.value(0), 0);
    }

    private static void hashOfNone() {
        Check.sentence("hash: The hash of feature k (from 0; not of crossings' terms) of the first example of the ring; 0 if there is none");
        HashedLearner x = learner();
        Check.due("hash(0) at first", x.hash(0), 0);
        x.cross(' ', ' ');
        Check.read(x, "| 3 4");
        Check.read(x, "| 5 6 7 8");
        Check.due("hash(0)", x.hash(0), 3);
        Check.due("hash(1)", x.hash(1), 4);
        for (int k = 2; k < 13; k++) {
            Check.due("hash(" + k + ")", x.hash(k), 0);
        }
        for (int k : FAR) {
            Check.due("hash(" + k + ")", x.hash(k), 0);
        }
        x.learn();
        x.learn();
        Check.due("hash(0) of the empty ring", x.hash(0), 0);
        Check.read(x, "| 1 2 3 4 5 6 7 8 9 10 11 77");
        Check.due("hash(11)", x.hash(11), 77);
        Check.due("hash(12)", x.hash(12), 0);
    }

    public static void main(String[] args) {
        nineDigits();
        nearlyDigits();
        wrappingNumber();
        blocks();
        seeds();
        letters();
        clips();
        featureValue();
        crossingValue();
        sameLetter();
        otherLetters();
        lastTerm();
        lowestBits();
        crossingIndex();
        threeCrossings();
        wrongLetters();
        thereAlready();
        afterAnExample();
        afterAMalformedLine();
        spaceForNoTitle();
        countOfTerms();
        indexOfNone();
        valueOfNone();
        hashOfNone();
        Check.end();
    }
}
