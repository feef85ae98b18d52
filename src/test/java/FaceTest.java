import java.lang.reflect.Field;
import java.lang.reflect.Member;
import java.lang.reflect.Method;
import java.lang.reflect.Modifier;
import java.util.ArrayList;
import java.util.Arrays;
import java.util.List;
import java.util.TreeSet;

/** The public face of the document, and nothing beside it; and no call throws, whatever its arguments. */
public final class FaceTest {
    private static final String[] FACE = {
        "public HashedLearner(int,int,int)",
        "public static final int HashedLearner.NONE",
        "public boolean HashedLearner.write(char)",
        "public boolean HashedLearner.cross(char,char)",
        "public int HashedLearner.line()",
        "public int HashedLearner.learn()",
        "public int HashedLearner.peek()",
        "public int HashedLearner.pass()",
        "public int HashedLearner.waiting()",
        "public int HashedLearner.terms()",
        "public int HashedLearner.index(int)",
        "public int HashedLearner.value(int)",
        "public int HashedLearner.hash(int)",
        "public int HashedLearner.weight(int)",
        "public long HashedLearner.sum(int)",
        "public long HashedLearner.scale(int)",
        "public boolean HashedLearner.save(int)",
        "public boolean HashedLearner.load(int)",
        "public long HashedLearner.loss()",
        "public long HashedLearner.report(int)",
        "public int HashedLearner.warnings()",
    };

    private static void members() {
        List<Member> all = new ArrayList<>();
        all.addAll(Arrays.asList(HashedLearner.class.getDeclaredConstructors()));
        all.addAll(Arrays.asList(HashedLearner.class.getDeclaredFields()));
        all.addAll(Arrays.asList(HashedLearner.class.getDeclaredMethods()));
        TreeSet<String> got = new TreeSet<>();
        for (Member member : all) {
            if (!Modifier.isPrivate(member.getModifiers())) {
                got.add(member.toString());
            }
        }
        TreeSet<String> want = new TreeSet<>(Arrays.asList(FACE));
        for (String member : want) {
            Check.due("there is " + member, got.contains(member), true);
        }
        for (String member : got) {
            Check.due("the document has " + member, want.contains(member), true);
        }
    }

    // LANGUAGE.md, rule 1: no private method bears the name of a public one.
    private static void privateNames() {
        TreeSet<String> faceNames = new TreeSet<>();
        for (Method method : HashedLearner.class.getMethods()) {
            faceNames.add(method.getName());
        }
        for (Class<?> inside : HashedLearner.class.getDeclaredClasses()) {
            privateNamesOf(inside, faceNames);
        }
        privateNamesOf(HashedLearner.class, faceNames);
    }

    private static void privateNamesOf(Class<?> owner, TreeSet<String> faceNames) {
        for (Method method : owner.getDeclaredMethods()) {
            if (!Modifier.isPublic(method.getModifiers())) {
                Check.due(method + " bears a name of the face", faceNames.contains(method.getName()), false);
            }
        }
    }

    // LANGUAGE.md, rule 5: there is no static state.
    private static void staticFields() {
        for (Field field : HashedLearner.class.getDeclaredFields()) {
            int own = field.getModifiers();
            Check.due(field + " is static and not final", Modifier.isStatic(own) && !Modifier.isFinal(own), false);
        }
    }

    private static void classes() {
        int modifiers = HashedLearner.class.getModifiers();
        Check.due("public and final", Modifier.isPublic(modifiers) && Modifier.isFinal(modifiers), true);
        for (Class<?> inside : HashedLearner.class.getDeclaredClasses()) {
            int own = inside.getModifiers();
            Check.due(inside + " is static", Modifier.isStatic(own), true);
            Check.due(inside + " is public or protected", Modifier.isPublic(own) || Modifier.isProtected(own), false);
        }
        Check.due("NONE", HashedLearner.NONE, Integer.MIN_VALUE);
    }

    private static void callAll(HashedLearner x, int k) {
        x.write((char) k);
        x.cross((char) k, (char) (k + 1));
        x.peek();
        x.pass();
        x.waiting();
        x.terms();
        x.index(k);
        x.value(k);
        x.hash(k);
        x.weight(k);
        x.sum(k);
        x.scale(k);
        x.load(k);
        x.save(k);
        x.loss();
        x.report(k);
        x.warnings();
    }

    private static void neverThrows() {
        for (int kind = 0; kind < 12; kind++) {
            HashedLearner x = new HashedLearner(kind, kind % 3, kind % 2);
            for (int n = -40; n < 400; n++) {
                callAll(x, n);
                callAll(x, n * 5368709);
                if (n % 3 == 0) {
                    x.line();
                } else {
                    x.learn();
                }
            }
            for (int n = 0; n < 3000; n++) {
                x.write('1');
                x.write('|');
                x.line();
                x.learn();
            }
            Check.due("it still answers", x.waiting() >= 0, true);
        }
    }

    public static void main(String[] args) {
        members();
        privateNames();
        staticFields();
        classes();
        neverThrows();
        Check.end();
    }
}
