import java.lang.reflect.Constructor;
import java.lang.reflect.Field;
import java.lang.reflect.Method;
import java.lang.reflect.Modifier;
import java.util.Arrays;
import java.util.TreeSet;

/** The document's public face, with what each call is declared to throw, and nothing beside it. */
public final class FaceTest {
    private static final String INDEX = "IndexOutOfBoundsException";
    private static final String ARGUMENT = "IllegalArgumentException";
    private static final String STATE = "IllegalStateException";
    private static final String[] FACE = {
        "int build(int, int, int) " + ARGUMENT + " " + STATE,
        "int raise(int, int) " + INDEX + " " + ARGUMENT,
        "boolean fix(int, int, boolean) " + INDEX + " " + STATE,
        "int flip(int, int) " + INDEX + " " + STATE,
        "int settle()",
        "int told(int, int) " + INDEX,
        "int triangle(int, int) " + INDEX,
        "int edge(int, int, int) " + INDEX,
        "int count(int) " + INDEX,
        "int at(int, int) " + ARGUMENT,
        "int height(int, int) " + ARGUMENT,
        "int nearest(int, int) " + ARGUMENT,
        "int circles(int, int) " + ARGUMENT,
        "int way(int, int) " + INDEX,
        "int settles()",
        "int would(int, int) " + ARGUMENT + " " + STATE,
        "double mean()",
        "long digest()",
    };

    private FaceTest() {
    }

    public static void main(String[] args) {
        Class<?> face = MoorTriangles.class;
        Due.is("public and final", "public final", () -> Modifier.toString(face.getModifiers()));
        Due.is("methods", new TreeSet<>(Arrays.asList(FACE)), () -> methods(face));
        Due.is("fields that are not private", "[]", () -> openFields(face));
        Due.is("constructors", "[public MoorTriangles()]", () -> Arrays.toString(face.getDeclaredConstructors()));
        Due.is("what the constructor throws", 0, () -> thrown(face.getDeclaredConstructors()));
        Due.is("one file, one class without a package", "", face::getPackageName);
        Due.is("beyond LANGUAGE.md", "[]", () -> beyondTheLanguage(face));
        Due.end();
    }

    /** What breaks those of LANGUAGE.md's rules 1, 2, 5 and 11 that a compiled class shows. */
    private static TreeSet<String> beyondTheLanguage(Class<?> face) {
        TreeSet<String> found = new TreeSet<>();
        TreeSet<String> open = new TreeSet<>();
        for (Method method : face.getDeclaredMethods()) {
            if (Modifier.isPublic(method.getModifiers())) {
                open.add(method.getName());
            }
        }
        addBroken(found, face, open);
        for (Class<?> inside : face.getDeclaredClasses()) {
            addBroken(found, inside, open);
            int modifiers = inside.getModifiers();
            if (Modifier.isPublic(modifiers) || Modifier.isProtected(modifiers) || !Modifier.isStatic(modifiers)) {
                found.add("rule 1: class " + inside.getSimpleName());
            }
        }
        return found;
    }

    private static void addBroken(TreeSet<String> found, Class<?> type, TreeSet<String> open) {
        String in = type.getSimpleName() + ".";
        for (Method method : type.getDeclaredMethods()) {
            if (Modifier.isPrivate(method.getModifiers()) && open.contains(method.getName())) {
                found.add("rule 1: " + in + method.getName());
            }
            if (method.getParameterCount() > 7) {
                found.add("rule 11: " + in + method.getName());
            }
        }
        int fields = 0;
        for (Field field : type.getDeclaredFields()) {
            boolean constant = Modifier.isStatic(field.getModifiers());
            fields += constant ? 0 : 1;
            if (constant && !Modifier.isFinal(field.getModifiers())) {
                found.add("rule 5: " + in + field.getName());
            }
        }
        if (fields > 20) {
            found.add("rule 11: " + fields + " fields in " + in);
        }
    }

    private static TreeSet<String> methods(Class<?> face) {
        TreeSet<String> found = new TreeSet<>();
        for (Method method : face.getDeclaredMethods()) {
            boolean open = !Modifier.isPrivate(method.getModifiers()) && !method.isSynthetic();
            if (open) {
                found.add(told(method));
            }
        }
        return found;
    }

    private static String told(Method method) {
        StringBuilder text = new StringBuilder();
        text.append(method.getReturnType().getSimpleName()).append(' ').append(method.getName()).append('(');
        String comma = "";
        for (Class<?> type : method.getParameterTypes()) {
            text.append(comma).append(type.getSimpleName());
            comma = ", ";
        }
        text.append(')');
        for (Class<?> type : method.getExceptionTypes()) {
            text.append(' ').append(type.getSimpleName());
        }
        return text.toString();
    }

    private static TreeSet<String> openFields(Class<?> face) {
        TreeSet<String> found = new TreeSet<>();
        for (Field field : face.getDeclaredFields()) {
            if (!Modifier.isPrivate(field.getModifiers())) {
                found.add(field.getName());
            }
        }
        return found;
    }

    private static int thrown(Constructor<?>[] constructors) {
        int found = 0;
        for (Constructor<?> constructor : constructors) {
            found += constructor.getExceptionTypes().length;
        }
        return found;
    }
}
