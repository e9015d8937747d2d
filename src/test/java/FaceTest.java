import java.io.IOException;
import java.lang.reflect.Constructor;
import java.lang.reflect.Field;
import java.lang.reflect.Method;
import java.lang.reflect.Modifier;
import java.util.Set;
import java.util.TreeSet;
import java.util.stream.Collectors;
import java.util.stream.Stream;

/** The public face: the class, its constants, constructor and methods as the document has them, and no others. */
public final class FaceTest {
    private static final Due due = new Due();

    public static void main(String[] args) throws IOException, IllegalAccessException {
        documentWasRead();
        theClass();
        constants();
        constructors();
        methods();
        otherMembersArePrivate();
        due.end();
    }

    private static void documentWasRead() throws IOException {
        due.is("constants of the document", Face.constants().size(), 3);
        due.is("methods of the document", Face.methods().size(), Call.NAMES.length);
    }

    private static void theClass() {
        int modifiers = StatRows.class.getModifiers();
        due.isTrue("the class is public and final", Modifier.isPublic(modifiers) && Modifier.isFinal(modifiers));
        due.isTrue("it is in no package", StatRows.class.getPackageName().isEmpty());
        due.isTrue("it has no class above it but Object", StatRows.class.getSuperclass() == Object.class);
        due.is("interfaces", StatRows.class.getInterfaces().length, 0);
    }

    private static void constants() throws IOException, IllegalAccessException {
        Set<String> shown = new TreeSet<>();
        for (Field field : StatRows.class.getFields()) {
            shown.add(Modifier.toString(field.getModifiers()) + " " + field.getType().getName() + " " + field.getName()
                + " = " + field.get(null));
        }
        due.isTrue("the constants are those of the document: " + shown, shown.equals(Face.constants()));
        due.is("BAD", StatRows.BAD, -1);
        due.is("NO", StatRows.NO, -2);
        due.is("FULL", StatRows.FULL, -3);
    }

    private static void constructors() {
        Constructor<?>[] constructors = StatRows.class.getDeclaredConstructors();
        due.is("constructors", constructors.length, 1);
        due.isTrue("the constructor is public and takes nothing",
            Modifier.isPublic(constructors[0].getModifiers()) && constructors[0].getParameterCount() == 0);
    }

    private static void methods() throws IOException {
        Set<String> shown = new TreeSet<>();
        for (Method method : StatRows.class.getDeclaredMethods()) {
            if (Modifier.isPublic(method.getModifiers())) {
                due.isTrue(method + " is of an object", !Modifier.isStatic(method.getModifiers()));
                due.is(method + " names exceptions", method.getExceptionTypes().length, 0);
                String types = Stream.of(method.getParameterTypes()).map(Class::getName).collect(Collectors.joining(" "));
                shown.add(method.getReturnType().getName() + " " + method.getName() + "(" + types + ")");
            }
        }
        Set<String> asked = new TreeSet<>();
        for (String method : Face.methods()) {
            asked.add(method.replaceAll("int \\w+(?=[,)])", "int").replace(",", ""));
        }
        due.isTrue("the methods are those of the document: " + shown, shown.equals(asked));
    }

    private static void otherMembersArePrivate() {
        for (Method method : StatRows.class.getDeclaredMethods()) {
            due.isTrue(method + " is public or private", isPublicOrPrivate(method.getModifiers()));
        }
        for (Field field : StatRows.class.getDeclaredFields()) {
            due.isTrue(field + " is public or private", isPublicOrPrivate(field.getModifiers()));
        }
    }

    private static boolean isPublicOrPrivate(int modifiers) {
        return Modifier.isPublic(modifiers) || Modifier.isPrivate(modifiers);
    }
}
