import java.lang.reflect.Constructor;
import java.lang.reflect.Field;
import java.lang.reflect.Method;
import java.lang.reflect.Modifier;
import java.util.Arrays;
import java.util.TreeSet;

/** The class has the document's face and no other member that is seen from outside. */
public final class FaceTest {
    private static final String N = "NoSuchElementException";
    private static final String A = "IllegalArgumentException";
    private static final String S = "IllegalStateException";
    private static final String U = "UnsupportedOperationException";

    private static final String[] FACE = {
        face("int", "batch", 0, U),
        face("int", "entry", 4, N, A, S, U),
        face("void", "hold", 1, N, S, U),
        face("void", "free", 1, N, S),
        face("void", "drop", 1, N, S),
        face("void", "post", 2, N, A, S, U),
        face("int", "reverse", 2, N, A, S, U),
        face("int", "undo", 1, A, S, U),
        face("int", "close", 1, A),
        face("long", "carry", 2, A, S),
        face("long", "stock", 2, A),
        face("long", "upTo", 3, A),
        face("long", "available", 2, A),
        face("long", "at", 2, A),
        face("int", "row", 3, N, A),
        face("int", "told", 2, N, A),
        face("long", "packed", 2, N),
        face("int", "count", 1),
    };

    private static final Checks checks = new Checks();

    public static void main(String[] args) {
        checks.due("the class is public and final", MoveRows.class.getModifiers(), Modifier.PUBLIC | Modifier.FINAL);
        methods();
        constructors();
        fields();
        checks.end("FaceTest");
    }

    private static String face(String answer, String name, int ints, String... thrown) {
        String[] types = new String[ints];
        Arrays.fill(types, "int");
        return answer + " " + name + Arrays.toString(types) + " throws " + new TreeSet<>(Arrays.asList(thrown));
    }

    private static String face(Method m) {
        TreeSet<String> thrown = new TreeSet<>();
        for (Class<?> e : m.getExceptionTypes()) {
            thrown.add(e.getSimpleName());
        }
        String[] types = new String[m.getParameterCount()];
        for (int i = 0; i < types.length; i++) {
            types[i] = m.getParameterTypes()[i].getName();
        }
        return m.getReturnType().getName() + " " + m.getName() + Arrays.toString(types) + " throws " + thrown;
    }

    private static void methods() {
        TreeSet<String> open = new TreeSet<>();
        TreeSet<String> openNames = new TreeSet<>();
        TreeSet<String> hiddenNames = new TreeSet<>();
        for (Method m : MoveRows.class.getDeclaredMethods()) {
            if (Modifier.isPrivate(m.getModifiers())) {
                hiddenNames.add(m.getName());
            } else {
                checks.due(m.getName() + " is public and nothing else", m.getModifiers(), Modifier.PUBLIC);
                open.add(face(m));
                openNames.add(m.getName());
            }
        }
        checks.dueText("the face", open.toString(), new TreeSet<>(Arrays.asList(FACE)).toString());
        hiddenNames.retainAll(openNames);
        checks.dueText("private methods with a public one's name", hiddenNames.toString(), "[]");
    }

    private static void constructors() {
        Constructor<?>[] all = MoveRows.class.getDeclaredConstructors();
        checks.due("constructors", all.length, 1);
        checks.due("the constructor is public", all[0].getModifiers(), Modifier.PUBLIC);
        checks.due("the constructor's parameters", all[0].getParameterCount(), 0);
    }

    private static void fields() {
        for (Field f : MoveRows.class.getDeclaredFields()) {
            checks.due(f.getName() + " is private", Modifier.isPrivate(f.getModifiers()));
            checks.due(f.getName() + " is final if it is static",
                    !Modifier.isStatic(f.getModifiers()) || Modifier.isFinal(f.getModifiers()));
        }
    }
}
