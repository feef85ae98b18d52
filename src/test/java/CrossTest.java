/** Promise 3. */
public final class CrossTest {
    private static void atMostThreeAndNoneTwice() {
        HashedLearner x = new HashedLearner(4, 0, 0);
        Check.due("cross(a, b)", x.cross('a', 'b'), true);
        Check.due("cross(a, b) again", x.cross('a', 'b'), false);
        Check.due("cross(b, a)", x.cross('b', 'a'), true);
        Check.due("cross(a, a)", x.cross('a', 'a'), true);
        Check.due("a fourth", x.cross('b', 'b'), false);
        Check.read(x, "|a x |b y");
        Check.due("terms()", x.terms(), 2 + 1 + 1 + 1 + 1);
    }

    private static void letters() {
        char[] wrong = {0, 31, ':', '|', 127, 128, 255, 256 + 'a', 65535};
        HashedLearner x = new HashedLearner(4, 0, 0);
        for (char c : wrong) {
            Check.due("cross(" + (int) c + ", a)", x.cross(c, 'a'), false);
            Check.due("cross(a, " + (int) c + ")", x.cross('a', c), false);
        }
        Check.due("cross(32, 126)", x.cross(' ', '~'), true);
        Check.due("cross(126, 32)", x.cross('~', ' '), true);
        Check.due("cross(32, 32)", x.cross(' ', ' '), true);
    }

    private static void everyLetter() {
        for (char c = 0; c < 300; c++) {
            HashedLearner x = new HashedLearner(4, 0, 0);
            boolean fine = c >= 32 && c <= 126 && c != ':' && c != '|';
            Check.due("cross(" + (int) c + ", same)", x.cross(c, c), fine);
        }
    }

    private static void notAfterAnExample() {
        HashedLearner x = new HashedLearner(4, 0, 0);
        Check.due("a malformed line", Check.read(x, "nothing"), -1);
        Check.due("cross after it", x.cross('a', 'b'), true);
        Check.type(x, "|a x |b y");
        Check.due("cross while a line is typed", x.cross('b', 'b'), true);
        Check.due("line()", x.line(), 2);
        Check.due("cross after an example", x.cross('a', 'a'), false);
        Check.due("terms()", x.terms(), 2 + 1 + 1 + 1);
        x.learn();
        Check.due("cross when it has left the ring", x.cross('a', 'a'), false);
        Check.read(x, "nothing");
        Check.due("cross after a malformed one again", x.cross('a', 'a'), false);
    }

    private static void spaceIsForNoTitle() {
        HashedLearner x = new HashedLearner(4, 0, 0);
        Check.due("cross(space, a)", x.cross(' ', 'a'), true);
        Check.read(x, "| u:2 |a v:3 | w:5");
        Check.due("terms()", x.terms(), 3 + 2 + 1);
        Check.due("value(3)", x.value(3), 600);
        Check.due("value(4)", x.value(4), 1500);
    }

    public static void main(String[] args) {
        atMostThreeAndNoneTwice();
        letters();
        everyLetter();
        notAfterAnExample();
        spaceIsForNoTitle();
        Check.end();
    }
}
