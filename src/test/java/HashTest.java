/** Promise 12. The hashes of names alone are known values of MurmurHash3 (32 bits). */
public final class HashTest {
    private static void hash(String line, int want) {
        HashedLearner x = new HashedLearner(4, 0, 0);
        Check.read(x, line);
        Check.due("hash(0) of '" + line + "'", x.hash(0), want);
    }

    private static void names() {
        hash("| hello", 0x248bfa47);
        hash("| test", 0xba6bd213);
        hash("| abc", 0xb3dd93fa);
        hash("| a", 0x3c2569b2);
        hash("| ab", 0x9bbfd75f);
        hash("| abcd", 0x43ed676a);
        hash("| abcde", 0xe89b9af6);
        hash("| ~!", 0x4359f742);
        hash("| hello:3", 0x248bfa47);
        hash("| 12a", 0x31ee252b);
    }

    private static void digits() {
        hash("| 0", 0);
        hash("| 7", 7);
        hash("| 007", 7);
        hash("| 123456789", 123456789);
        hash("| 000000000", 0);
        hash("| 0000000000", -773206437);
        hash("| 1234567890", 839148365);
        hash("| 0123456789", 1891213601);
        hash("| 17:3", 17);
    }

    private static void seeds() {
        hash("|a x", -916924280);
        hash("|a:3 x", -916924280);
        hash("|1234 hello", -2043543705);
        hash("|0001234 hello", -2043543705);
        hash("|abc 5", -1277324289);
        hash("|999999999 999999999", 1999999998);
        hash("|zz 999999999", 357028119);
        hash("|t| hello", 0x248bfa47);
        hash("|0123456789 999999999", 1891213601 + 999999999);
    }

    private static void noSuchFeature() {
        HashedLearner x = new HashedLearner(4, 0, 0);
        x.cross(' ', ' ');
        Check.due("hash(0) of an empty ring", x.hash(0), 0);
        Check.read(x, "| 3 5");
        Check.read(x, "| 9");
        Check.due("hash(0)", x.hash(0), 3);
        Check.due("hash(1)", x.hash(1), 5);
        for (int k : new int[] {2, 3, 5, -1, 12, Integer.MIN_VALUE, Integer.MAX_VALUE}) {
            Check.due("hash(" + k + ")", x.hash(k), 0);
        }
        x.learn();
        Check.due("hash(0) of the second", x.hash(0), 9);
        Check.due("hash(1) of the second: a crossing's", x.hash(1), 0);
        x.learn();
        Check.due("hash(0) after the last", x.hash(0), 0);
    }

    public static void main(String[] args) {
        names();
        digits();
        seeds();
        noSuchFeature();
        Check.end();
    }
}
