import java.lang.reflect.Constructor;
import java.lang.reflect.Field;
import java.lang.reflect.Method;
import java.lang.reflect.Modifier;
import java.util.Arrays;
import java.util.TreeSet;

/** The document's public face, with what each call is declared to throw, and nothing beside it. */
public final class FaceTest {
    private static final String INDEX = "IndexOutOfBoundsException";
    private static final String ARGUMENT = "IllegalArgumentException";
    private static final String STATE = "IllegalStateException";
    private static final String[] FACE = {
        "int build(int, int, int) " + ARGUMENT + " " + STATE,
        "int raise(int, int) " + INDEX + " " + ARGUMENT,
        "boolean fix(int, int, boolean) " + INDEX + " " + STATE,
        "int flip(int, int) " + INDEX + " " + STATE,
        "int settle()",
        "int told(int, int) " + INDEX,
        "int triangle(int, int) " + INDEX,
        "int edge(int, int, int) " + INDEX,
        "int count(int) " + INDEX,
        "int at(int, int) " + ARGUMENT,
        "int height(int, int) " + ARGUMENT,
        "int nearest(int, int) " + ARGUMENT,
        "int circles(int, int) " + ARGUMENT,
        "int way(int, int) " + INDEX,
        "int settles()",
        "int would(int, int) " + ARGUMENT + " " + STATE,
        "double mean()",
        "long digest()",
    };

    private FaceTest() {
    }

    public static void main(String[] args) {
        Class<?> face = MoorTriangles.class;
        Due.is("public and final", "public final", () -> Modifier.toString(face.getModifiers()));
        Due.is("methods", new TreeSet<>(Arrays.asList(FACE)), () -> methods(face));
        Due.is("fields that are not private", "[]", () -> openFields(face));
        Due.is("constructors", "[public MoorTriangles()]", () -> Arrays.toString(face.getDeclaredConstructors()));
        Due.is("what the constructor throws", 0, () -> thrown(face.getDeclaredConstructors()));
        Due.is("one file, one class without a package", "", face::getPackageName);
        Due.end();
    }

    private static TreeSet<String> methods(Class<?> face) {
        TreeSet<String> found = new TreeSet<>();
        for (Method method : face.getDeclaredMethods()) {
            boolean open = !Modifier.isPrivate(method.getModifiers()) && !method.isSynthetic();
            if (open) {
                found.add(told(method));
            }
        }
        return found;
    }

    private static String told(Method method) {
        StringBuilder text = new StringBuilder();
        text.append(method.getReturnType().getSimpleName()).append(' ').append(method.getName()).append('(');
        String comma = "";
        for (Class<?> type : method.getParameterTypes()) {
            text.append(comma).append(type.getSimpleName());
            comma = ", ";
        }
        text.append(')');
        for (Class<?> type : method.getExceptionTypes()) {
            text.append(' ').append(type.getSimpleName());
        }
        return text.toString();
    }

    private static TreeSet<String> openFields(Class<?> face) {
        TreeSet<String> found = new TreeSet<>();
        for (Field field : face.getDeclaredFields()) {
            if (!Modifier.isPrivate(field.getModifiers())) {
                found.add(field.getName());
            }
        }
        return found;
    }

    private static int thrown(Constructor<?>[] constructors) {
        int found = 0;
        for (Constructor<?> constructor : constructors) {
            found += constructor.getExceptionTypes().length;
        }
        return found;
    }
}
