/** Promise 7: pass, and the store. */
public final class PassTest {
    private static void again() {
        HashedLearner x = new HashedLearner(4, 0, 0);
        Check.due("pass() of an empty store", x.pass(), 0);
        x.save(0);
        Check.learn(x, "1 |");
        Check.learn(x, "-3 |");
        Check.slot("learned", x, 12, 157, 131801, 100);
        x.load(0);
        Check.due("pass()", x.pass(), 2);
        Check.slot("in the same order again", x, 12, 157, 131801, 100);
        Check.due("loss() stays", x.loss(), 100 + 349 * 349 / 100);
        Check.due("report(-1) stays", x.report(-1), 2);
        Check.due("pass()", x.pass(), 2);
        Check.due("a second pass moves the weight", x.weight(12) != 157, true);
    }

    private static void importance() {
        HashedLearner x = new HashedLearner(4, 0, 0);
        x.save(0);
        Check.learn(x, "1 2 |");
        x.load(0);
        Check.due("pass()", x.pass(), 1);
        Check.slot("twice", x, 12, 7206, 12601, 100);
    }

    private static void onlyTheFirstSixteen() {
        HashedLearner x = new HashedLearner(4, 0, 0);
        for (int n = 1; n <= 16; n++) {
            Check.due("pass() before", x.pass(), n - 1);
            Check.learn(x, "0|");
        }
        x.save(0);
        for (int n = 17; n <= 22; n++) {
            Check.learn(x, "9|");
            Check.due("pass()", x.pass(), 16);
        }
        x.load(0);
        Check.due("pass()", x.pass(), 16);
        Check.slot("the later ones are not there", x, 12, 0, 0, 100);
        Check.due("report(-1) counts them all", x.report(-1), 5);
    }

    private static void ringStays() {
        HashedLearner x = new HashedLearner(4, 0, 0);
        Check.read(x, "1 | 3");
        Check.due("pass() with one waiting", x.pass(), 0);
        x.learn();
        for (int n = 0; n < 4; n++) {
            Check.read(x, "2 | 5 6");
        }
        Check.type(x, "| 7");
        Check.due("pass()", x.pass(), 1);
        Check.due("waiting()", x.waiting(), 4);
        Check.due("hash(0)", x.hash(0), 5);
        Check.due("slots of those that wait", x.weight(5), 0);
        Check.due("the line stays", x.write('8'), true);
        x.learn();
        Check.due("line()", x.line(), 1);
    }

    private static void unlabelledAreNotStored() {
        HashedLearner x = new HashedLearner(4, 0, 0);
        for (int n = 0; n < 5; n++) {
            Check.learn(x, "| 3");
        }
        Check.due("pass()", x.pass(), 0);
        Check.learn(x, "1 | 3");
        Check.due("pass()", x.pass(), 1);
    }

    /** An example of the store must not be written over by the lines that come after it. */
    private static void storedOnesStay() {
        HashedLearner x = new HashedLearner(4, 0, 0);
        x.save(0);
        for (int n = 0; n < 6; n++) {
            Check.learn(x, "1 | " + n);
        }
        for (int n = 0; n < 9; n++) {
            Check.learn(x, "| 7 8 9");
        }
        x.load(0);
        Check.due("pass()", x.pass(), 6);
        for (int n = 0; n < 6; n++) {
            Check.due("slot " + n + " was learned", x.scale(n), 100);
        }
        Check.due("slot 7 was not", x.scale(7), 0);
    }

    public static void main(String[] args) {
        again();
        importance();
        onlyTheFirstSixteen();
        ringStays();
        unlabelledAreNotStored();
        storedOnesStay();
        Check.end();
    }
}
