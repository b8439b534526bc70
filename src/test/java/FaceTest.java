import java.io.IOException;
import java.lang.reflect.Constructor;
import java.lang.reflect.Executable;
import java.lang.reflect.Field;
import java.lang.reflect.Method;
import java.lang.reflect.Modifier;
import java.nio.file.Files;
import java.nio.file.Path;
import java.util.Arrays;
import java.util.Set;
import java.util.TreeSet;

/** The face is the document's and nothing else; some rules of LANGUAGE.md that can be seen from outside. */
public final class FaceTest {
    private static final Checks c = new Checks("FaceTest");

    private static final String[] FACE = {
        "int object(int) IllegalArgumentException",
        "int session()",
        "boolean set(int int int long) IndexOutOfBoundsException IllegalStateException",
        "boolean drop(int int) IndexOutOfBoundsException IllegalStateException",
        "int make(int int) IndexOutOfBoundsException IllegalStateException IllegalArgumentException",
        "int join(int) IndexOutOfBoundsException IllegalStateException",
        "int conflict(int int) IndexOutOfBoundsException",
        "boolean settle(int int) IndexOutOfBoundsException IllegalStateException IllegalArgumentException",
        "long at(int int) IndexOutOfBoundsException IllegalStateException",
        "boolean lock(int long long long long) IndexOutOfBoundsException IllegalStateException",
        "boolean apart(int int long) IndexOutOfBoundsException IllegalArgumentException",
        "int violation(int int) IndexOutOfBoundsException",
        "int version()",
        "int difference(int int int) IndexOutOfBoundsException",
        "boolean undo(int) IndexOutOfBoundsException IllegalStateException",
        "int branch(int) IndexOutOfBoundsException",
        "int play(long int) IllegalArgumentException",
        "int mark(int int) IndexOutOfBoundsException IllegalArgumentException",
    };

    /** Rules 2, 4, 5, 6 and 10; texts and comments have none of these either. */
    private static final String[] FORBIDDEN = {
        "package ", "->", "::", "finally", "synchronized", "assert ", "static {", "Exact(", "getMessage", "Throwable",
        "NullPointerException", "ArrayIndexOutOfBounds", "ClassCastException", "NegativeArraySize", "ArrayStoreException",
    };

    public static void main(String[] args) throws IOException {
        methods();
        restOfTheFace();
        nestedClasses();
        source();
        c.end();
    }

    private static String text(Method m) {
        return m.getReturnType().getSimpleName() + " " + m.getName() + "(" + names(m.getParameterTypes(), " ", "") + ")"
                + names(m.getExceptionTypes(), " ", " ");
    }

    private static String names(Class<?>[] types, String between, String before) {
        String[] names = Arrays.stream(types).map(Class::getSimpleName).toArray(String[]::new);
        return names.length == 0 ? "" : before + String.join(between, names);
    }

    private static void methods() {
        Set<String> want = new TreeSet<>(Arrays.asList(FACE));
        Set<String> got = new TreeSet<>();
        Set<String> names = new TreeSet<>();
        for (Method m : ObjectMerge.class.getDeclaredMethods()) {
            if (!Modifier.isPrivate(m.getModifiers())) {
                got.add((Modifier.isPublic(m.getModifiers()) ? "" : "not public: ") + text(m));
                names.add(m.getName());
            }
        }
        c.due("methods " + got, got.equals(want), true);
        for (Method m : ObjectMerge.class.getDeclaredMethods()) {
            c.due("private " + m.getName(), Modifier.isPrivate(m.getModifiers()) && names.contains(m.getName()), false);
        }
        for (Class<?> nested : ObjectMerge.class.getDeclaredClasses()) {
            for (Method m : nested.getDeclaredMethods()) {
                c.due(nested.getSimpleName() + "." + m.getName(), names.contains(m.getName()), false);
            }
        }
    }

    private static void restOfTheFace() {
        c.due("public final", ObjectMerge.class.getModifiers(), Modifier.PUBLIC | Modifier.FINAL);
        Constructor<?>[] made = ObjectMerge.class.getDeclaredConstructors();
        c.due("constructors", made.length, 1);
        c.due("its parameters", made[0].getParameterCount(), 0);
        c.due("public constructor", Modifier.isPublic(made[0].getModifiers()), true);
        for (Field f : ObjectMerge.class.getDeclaredFields()) {
            boolean hidden = Modifier.isPrivate(f.getModifiers());
            c.due("field " + f.getName(), hidden || f.getName().equals("NONE"), true);
            c.due("static and final " + f.getName(),
                    !Modifier.isStatic(f.getModifiers()) || Modifier.isFinal(f.getModifiers()), true);
        }
    }

    private static void nestedClasses() {
        Class<?>[] all = ObjectMerge.class.getDeclaredClasses();
        c.due("at most twelve classes", all.length <= 11, true);
        for (Class<?> nested : all) {
            int m = nested.getModifiers();
            c.due(nested.getSimpleName() + " is static", Modifier.isStatic(m), true);
            c.due(nested.getSimpleName() + " is hidden", Modifier.isPublic(m) || Modifier.isProtected(m), false);
            for (Executable e : nested.getDeclaredMethods()) {
                c.due(e.getName() + " has few parameters", e.getParameterCount() <= 7, true);
            }
        }
    }

    private static void source() throws IOException {
        String text = Files.readString(Path.of("src/main/java/ObjectMerge.java"));
        for (String word : FORBIDDEN) {
            c.due("'" + word + "' in the source", text.contains(word), false);
        }
    }
}
