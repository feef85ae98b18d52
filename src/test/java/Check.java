/** What the tests share: each wrong answer is printed, and end() exits with 1 if there was one. */
final class Check {
    private static int asked = 0;
    private static int wrong = 0;
    private static String sentence = "";

    private Check() {
    }

    /** The words of the document that make the next answers due; they are printed with a wrong one. */
    static void sentence(String words) {
        sentence = "[" + words + "] ";
    }

    static void due(String what, long got, long want) {
        asked++;
        if (got != want) {
            wrong++;
            System.out.print(sentence);
            System.out.println(what + " answered " + got + ", due is " + want);
        }
    }

    static void due(String what, boolean got, boolean want) {
        due(what, got ? 1 : 0, want ? 1 : 0);
    }

    static void type(HashedLearner x, String text) {
        for (int k = 0; k < text.length(); k++) {
            due("write of character " + k + " of '" + text + "'", x.write(text.charAt(k)), true);
        }
    }

    static int read(HashedLearner x, String text) {
        type(x, text);
        return x.line();
    }

    /** Reads a line that must be well formed, and learns it. */
    static int learn(HashedLearner x, String text) {
        due("line() of '" + text + "' is an example", read(x, text) >= 0, true);
        return x.learn();
    }

    static void slot(String what, HashedLearner x, int i, long weight, long sum, long scale) {
        due(what + ": weight(" + i + ")", x.weight(i), weight);
        due(what + ": sum(" + i + ")", x.sum(i), sum);
        due(what + ": scale(" + i + ")", x.scale(i), scale);
    }

    static void end() {
        if (asked == 0 || wrong > 0) {
            System.out.println(wrong + " of " + asked + " answers are wrong");
            System.exit(1);
        }
    }
}
