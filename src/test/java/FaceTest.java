import java.io.IOException;
import java.lang.reflect.Constructor;
import java.lang.reflect.Field;
import java.lang.reflect.Method;
import java.lang.reflect.Modifier;
import java.nio.file.Files;
import java.nio.file.Path;
import java.util.Set;
import java.util.TreeSet;
import java.util.regex.Pattern;

/** The public face of the document, and the rules of the language that a look at the class can tell. */
public final class FaceTest {
    private static final Set<String> FACE = Set.of(
        "int triple(int int int)", "int drop(int int int)", "int count(int int)", "long chain(int int)",
        "long star(int int)", "int bucket(int int int)", "int quantile(int int)", "int register(int int)",
        "long distinct(int int)", "long estimate(int int int)", "int range(int int int)", "int sample(int int)",
        "int pattern(int int int)", "int matches(int)", "int version()", "int countAt(int int)",
        "int forget(int)", "int told(int)");
    private static final Set<String> CONSTANTS = Set.of("BAD", "NO", "FULL");
    private static final String[] FORBIDDEN = {
        "\\bthrow\\b", "\\btry\\b", "\\bcatch\\b", "\\bsynchronized\\b", "\\bassert\\b", "->", "::", "\\bpackage\\b",
        "Exact\\b", "\\bimport (?!java\\.util\\.Arrays;)"
    };

    private static final Due due = new Due();

    public static void main(String[] args) throws IOException {
        constants();
        members();
        source();
        due.end();
    }

    private static void constants() {
        due.is("BAD", StatRows.BAD, -1);
        due.is("NO", StatRows.NO, -2);
        due.is("FULL", StatRows.FULL, -3);
    }

    private static void members() {
        int modifiers = StatRows.class.getModifiers();
        due.isTrue("the class is public and final", Modifier.isPublic(modifiers) && Modifier.isFinal(modifiers));
        Constructor<?>[] constructors = StatRows.class.getDeclaredConstructors();
        due.is("constructors", constructors.length, 1);
        due.isTrue("the constructor is public and takes nothing",
            Modifier.isPublic(constructors[0].getModifiers()) && constructors[0].getParameterCount() == 0);
        Set<String> shown = new TreeSet<>();
        for (Method method : StatRows.class.getDeclaredMethods()) {
            if (!Modifier.isPrivate(method.getModifiers())) {
                due.isTrue(method + " is public", Modifier.isPublic(method.getModifiers()));
                shown.add(signature(method));
            }
        }
        due.isTrue("the methods are those of the document: " + shown, shown.equals(FACE));
        for (Field field : StatRows.class.getDeclaredFields()) {
            boolean isConstant = CONSTANTS.contains(field.getName());
            due.isTrue(field + " is shown as it should be", Modifier.isPrivate(field.getModifiers()) != isConstant);
            due.isTrue(field + " is final", Modifier.isFinal(field.getModifiers()));
        }
    }

    private static String signature(Method method) {
        StringBuilder types = new StringBuilder();
        for (Class<?> type : method.getParameterTypes()) {
            types.append(types.length() == 0 ? "" : " ").append(type.getName());
        }
        return method.getReturnType().getName() + " " + method.getName() + "(" + types + ")";
    }

    private static void source() throws IOException {
        String source = Files.readString(Path.of("src/main/java/StatRows.java"));
        for (String word : FORBIDDEN) {
            due.isTrue("the source is without " + word, !Pattern.compile(word).matcher(source).find());
        }
    }
}
