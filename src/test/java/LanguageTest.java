import java.io.IOException;
import java.lang.reflect.Array;
import java.lang.reflect.Field;
import java.lang.reflect.Method;
import java.lang.reflect.Modifier;
import java.nio.file.Files;
import java.nio.file.Path;
import java.util.ArrayList;
import java.util.List;
import java.util.Set;
import java.util.TreeSet;
import java.util.regex.Matcher;
import java.util.regex.Pattern;

/** The rules of ../shared/LANGUAGE.md that can be read off the class or its text, by their numbers there. */
public final class LanguageTest {
    private static final Set<String> LIBRARY = Set.of(
        "Arrays.fill", "Math.max", "Math.min", "System.arraycopy", "Integer.MAX_VALUE");
    private static final String[] FORBIDDEN = {
        "\\bthrow\\b", "\\bthrows\\b", "\\btry\\b", "\\bcatch\\b", "\\bsynchronized\\b", "\\bassert\\b", "\\binstanceof\\b",
        "->", "::", "\\bpackage\\b", "Exact\\b", "\"", "\\bstatic \\{", "\\bequals\\b", "\\bhashCode\\b", "\\btoString\\b",
        "\\bdouble\\b", "\\bfloat\\b"
    };

    private static final Due due = new Due();

    public static void main(String[] args) throws IOException, ReflectiveOperationException {
        String text = Files.readString(Path.of("src/main/java/StatRows.java"));
        String code = text.replaceAll("(?s)/\\*.*?\\*/", "").replaceAll("//.*", "");
        privateNamesAreOthers();
        classesInside();
        fieldTypes();
        library(code);
        staticFields();
        forbiddenWords(code);
        loopsHaveAnEnd(code);
        sizes(code);
        onlyConstructorsMake(code);
        whatAnObjectHas();
        due.end();
    }

    private static List<Class<?>> classes() {
        List<Class<?>> all = new ArrayList<>(List.of(StatRows.class));
        all.addAll(List.of(StatRows.class.getDeclaredClasses()));
        return all;
    }

    /** Rule 1. */
    private static void privateNamesAreOthers() {
        Set<String> shown = Set.of(Call.NAMES);
        for (Class<?> type : classes()) {
            for (Method method : type.getDeclaredMethods()) {
                boolean isOfFace = type == StatRows.class && Modifier.isPublic(method.getModifiers());
                due.isTrue(method + " has a name of its own", isOfFace || !shown.contains(method.getName()));
            }
        }
    }

    /** Rules 1 and 2. */
    private static void classesInside() {
        for (Class<?> type : StatRows.class.getDeclaredClasses()) {
            int modifiers = type.getModifiers();
            due.isTrue(type + " is static", Modifier.isStatic(modifiers));
            due.isTrue(type + " is not shown", !Modifier.isPublic(modifiers) && !Modifier.isProtected(modifiers));
            due.is(type + " has classes inside", type.getDeclaredClasses().length, 0);
        }
        due.isTrue("no local or anonymous class", StatRows.class.getResource("StatRows$1.class") == null);
    }

    /** Rule 3: this program needs but numbers, rows of numbers and its own classes. */
    private static void fieldTypes() {
        for (Class<?> type : classes()) {
            for (Field field : type.getDeclaredFields()) {
                boolean isNumbers = field.getType() == int.class || field.getType() == int[].class;
                due.isTrue(field + " has a type that is allowed", isNumbers || classes().contains(field.getType()));
            }
        }
    }

    /** Rules 4 and 13. */
    private static void library(String code) {
        Matcher imports = Pattern.compile("\\bimport ([^;]*);").matcher(code);
        while (imports.find()) {
            due.isTrue("import of " + imports.group(1), imports.group(1).equals("java.util.Arrays"));
        }
        Set<String> own = new TreeSet<>();
        for (Class<?> type : classes()) {
            own.add(type.getSimpleName());
        }
        Matcher uses = Pattern.compile("\\b([A-Z]\\w*)\\.(\\w+)").matcher(code);
        while (uses.find()) {
            due.isTrue("use of " + uses.group(), own.contains(uses.group(1)) || LIBRARY.contains(uses.group()));
        }
    }

    /** Rule 5. */
    private static void staticFields() {
        for (Class<?> type : classes()) {
            for (Field field : type.getDeclaredFields()) {
                boolean isStatic = Modifier.isStatic(field.getModifiers());
                due.isTrue(field + " is final", !isStatic || Modifier.isFinal(field.getModifiers()));
            }
        }
    }

    /** Rules 2, 3, 6 and 10. */
    private static void forbiddenWords(String code) {
        for (String word : FORBIDDEN) {
            due.isTrue("the code is without " + word, !Pattern.compile(word).matcher(code).find());
        }
    }

    /** Rule 9: each loop tests something. */
    private static void loopsHaveAnEnd(String code) {
        due.isTrue("no loop without a test", !Pattern.compile("for \\([^;]*;\\s*;|while \\(true\\)").matcher(code).find());
    }

    /** Rule 11. */
    private static void sizes(String code) {
        due.isTrue("at most twelve classes", classes().size() <= 12);
        for (Class<?> type : classes()) {
            int fields = 0;
            for (Field field : type.getDeclaredFields()) {
                fields += Modifier.isStatic(field.getModifiers()) ? 0 : 1;
            }
            due.isTrue(type + " has at most twenty fields", fields <= 20);
            for (Method method : type.getDeclaredMethods()) {
                due.isTrue(method + " takes at most seven", method.getParameterCount() <= 7);
            }
        }
        Matcher bodies = Pattern.compile("(?ms)^( +)(?!private static final class)\\w[^;={}]*\\) \\{$.*?^\\1\\}$").matcher(code);
        int found = 0;
        while (bodies.find()) {
            found++;
            due.isTrue("a method of few lines: " + bodies.group().strip().split("\n")[0],
                bodies.group().lines().count() <= 60);
        }
        due.isTrue("methods were found", found > 50);
    }

    /** Rule 12, and what README.md says: no call makes an object. */
    private static void onlyConstructorsMake(String code) {
        String withoutConstructors = code.replaceAll("(?ms)^( +)(?:public )?[A-Z]\\w*\\(\\) \\{$.*?^\\1\\}$", "");
        due.isTrue("nothing is made but in constructors", !Pattern.compile("\\bnew\\b").matcher(withoutConstructors).find());
        due.isTrue("constructors make what there is", Pattern.compile("\\bnew\\b").matcher(code).find());
    }

    /** Rule 12, and what README.md says: some 1,100 elements. */
    private static void whatAnObjectHas() throws ReflectiveOperationException {
        int elements = elementsOf(new StatRows());
        due.isTrue("some 1,100 elements, not " + elements, elements > 1050 && elements < 1150);
    }

    private static int elementsOf(Object object) throws ReflectiveOperationException {
        int elements = 0;
        for (Field field : object.getClass().getDeclaredFields()) {
            if (!Modifier.isStatic(field.getModifiers()) && !field.getType().isPrimitive()) {
                field.setAccessible(true);
                Object part = field.get(object);
                elements += field.getType().isArray() ? Array.getLength(part) : elementsOf(part);
            }
        }
        return elements;
    }
}
