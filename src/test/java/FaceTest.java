import java.lang.reflect.Constructor;
import java.lang.reflect.Field;
import java.lang.reflect.Method;
import java.lang.reflect.Modifier;
import java.util.Arrays;
import java.util.Set;
import java.util.TreeSet;

/** The public face: the document's members and no others, by rule 1 of the language. */
public final class FaceTest extends Expect {
    private static final String S = " " + STATE;
    private static final String A = " " + ARGUMENT;
    private static final String I = " " + INDEX;
    private static final Set<String> METHODS = new TreeSet<>(Arrays.asList("put/4" + A, "clear/0", "give/1" + A, "start/0" + S,
            "needless/1" + S + I, "least/2" + S + I, "highest/3" + S + I, "run/1" + S + A, "output/1", "state/1", "number/1",
            "length/1", "place/2"));
    private static final Set<String> FIELDS = new TreeSet<>(Arrays.asList("NONE", "FREE"));

    private static void same(String what, Set<String> got, Set<String> want) {
        if (!got.equals(want)) {
            fail(what + " are " + got + ", due are " + want);
        }
    }

    private static String told(Method m) {
        StringBuilder b = new StringBuilder(m.getName()).append('/').append(m.getParameterCount());
        for (Class<?> thrown : m.getExceptionTypes()) {
            b.append(' ').append(thrown.getSimpleName());
        }
        return b.toString();
    }

    private static void methods() {
        Set<String> methods = new TreeSet<>();
        for (Method m : CheckSaver.class.getDeclaredMethods()) {
            if (!Modifier.isPrivate(m.getModifiers())) {
                methods.add(told(m));
                due(m.getName() + " is public", Modifier.isPublic(m.getModifiers()) ? 1 : 0, 1);
                due(m.getName() + " is of an object", Modifier.isStatic(m.getModifiers()) ? 1 : 0, 0);
                due(m.getName() + " answers an int", m.getReturnType() == int.class ? 1 : 0, 1);
                for (Class<?> parameter : m.getParameterTypes()) {
                    due(m.getName() + " takes ints", parameter == int.class ? 1 : 0, 1);
                }
            }
        }
        same("methods", methods, METHODS);
    }

    private static void fields() {
        Set<String> fields = new TreeSet<>();
        for (Field f : CheckSaver.class.getDeclaredFields()) {
            if (!Modifier.isPrivate(f.getModifiers())) {
                fields.add(f.getName());
                due(f.getName() + " is an int", f.getType() == int.class ? 1 : 0, 1);
                int all = Modifier.PUBLIC | Modifier.STATIC | Modifier.FINAL;
                due(f.getName() + " is public, static and final", f.getModifiers() & all, all);
            }
        }
        same("fields", fields, FIELDS);
    }

    public static void main(String[] args) {
        sentence("The public face");
        methods();
        fields();
        Constructor<?>[] made = CheckSaver.class.getDeclaredConstructors();
        due("constructors", made.length, 1);
        due("its parameters", made[0].getParameterCount(), 0);
        due("it is public", Modifier.isPublic(made[0].getModifiers()) ? 1 : 0, 1);
        int modifiers = CheckSaver.class.getModifiers();
        due("public and final", Modifier.isPublic(modifiers) && Modifier.isFinal(modifiers) ? 1 : 0, 1);
        finish("FaceTest");
    }
}
