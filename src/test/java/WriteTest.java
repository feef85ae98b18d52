/** Promise 2. */
public final class WriteTest {
    private static void everyCharacter() {
        for (int code = 0; code < 65536; code++) {
            HashedLearner x = new HashedLearner(4, 0, 0);
            Check.due("write of " + code, x.write((char) code), code >= 32 && code <= 126);
        }
    }

    private static void refusedOnesLeaveNoTrace() {
        HashedLearner x = new HashedLearner(4, 0, 0);
        Check.type(x, "| a");
        for (char c : new char[] {0, 9, 10, 13, 31, 127, 128, 160, 255, 256 + 'b', 65535}) {
            Check.due("write of " + (int) c, x.write(c), false);
        }
        Check.due("line()", Check.read(x, "b"), 1);
        Check.due("hash(0) of ab", x.hash(0), -1681926305);
    }

    private static void atMostHundred() {
        HashedLearner x = new HashedLearner(4, 0, 0);
        String name = "n".repeat(98);
        Check.type(x, "| " + name);
        Check.due("the 101st", x.write('n'), false);
        Check.due("the 102nd", x.write(' '), false);
        Check.due("line()", x.line(), 1);
        Check.due("hash(0)", x.hash(0), Reference.hashOf(name, 0));
        Check.due("write on the line after", x.write('|'), true);
    }

    public static void main(String[] args) {
        everyCharacter();
        refusedOnesLeaveNoTrace();
        atMostHundred();
        Check.end();
    }
}
