import java.lang.reflect.Method;
import java.nio.file.Files;
import java.nio.file.Path;
import java.util.Arrays;
import java.util.TreeSet;
import java.util.regex.Matcher;
import java.util.regex.Pattern;

/** The example in README.md answers what is written behind each call, and README.md names every call. */
public final class ReadmeTest {
    private static final Pattern NEW = Pattern.compile("HashedLearner x = new HashedLearner\\((\\d), (\\d), (\\d)\\);");
    private static final Pattern CROSS = Pattern.compile("x\\.cross\\('(.)', '(.)'\\); *// (true|false)\\b.*");
    private static final Pattern TYPED = Pattern.compile("for \\(char c : \"(.*)\"\\.toCharArray\\(\\)\\) \\{");
    private static final Pattern CALL = Pattern.compile("x\\.(\\w+)\\(\\); *// (-?\\d+)\\b.*");

    private static HashedLearner x = null;

    private static String exampleOf(String readme) {
        String fence = "```java\n";
        int start = readme.indexOf(fence) + fence.length();
        return readme.substring(start, readme.indexOf("```", start));
    }

    private static void follow(String row) throws ReflectiveOperationException {
        Matcher made = NEW.matcher(row);
        Matcher cross = CROSS.matcher(row);
        Matcher typed = TYPED.matcher(row);
        Matcher call = CALL.matcher(row);
        if (made.matches()) {
            x = new HashedLearner(Integer.parseInt(made.group(1)), Integer.parseInt(made.group(2)),
                Integer.parseInt(made.group(3)));
        } else if (cross.matches()) {
            boolean got = x.cross(cross.group(1).charAt(0), cross.group(2).charAt(0));
            Check.due(row, got, cross.group(3).equals("true"));
        } else if (typed.matches()) {
            Check.type(x, typed.group(1));
        } else if (call.matches()) {
            Number got = (Number) HashedLearner.class.getMethod(call.group(1)).invoke(x);
            Check.due(row, got.longValue(), Long.parseLong(call.group(2)));
        } else {
            Check.due("understood is '" + row + "'", row.equals("    x.write(c);") || row.equals("}"), true);
        }
    }

    private static void namesEveryCall(String readme) {
        TreeSet<String> names = new TreeSet<>();
        for (Method method : HashedLearner.class.getDeclaredMethods()) {
            if (java.lang.reflect.Modifier.isPublic(method.getModifiers())) {
                names.add(method.getName());
            }
        }
        for (String name : names) {
            Check.due("README.md tells of " + name, readme.contains("`" + name + "("), true);
        }
    }

    public static void main(String[] args) throws Exception {
        String readme = Files.readString(Path.of("README.md"));
        for (String row : Arrays.asList(exampleOf(readme).split("\n"))) {
            follow(row);
        }
        namesEveryCall(readme);
        Check.end();
    }
}
