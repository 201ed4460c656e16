import java.lang.reflect.Constructor;
import java.lang.reflect.Field;
import java.lang.reflect.Method;
import java.lang.reflect.Modifier;
import java.util.Arrays;
import java.util.Set;
import java.util.TreeSet;

/** The public face: the document's members and no others, by rule 1 of the language. */
public final class FaceTest extends Expect {
    private static final Set<String> METHODS = new TreeSet<>(Arrays.asList("put/4", "clear/0", "give/1", "start/0",
            "needless/1", "least/2", "highest/3", "run/1", "output/1", "state/1", "number/1", "length/1", "place/2"));
    private static final Set<String> FIELDS = new TreeSet<>(Arrays.asList("NONE", "FREE"));

    private static void same(String what, Set<String> got, Set<String> want) {
        if (!got.equals(want)) {
            fail(what + " are " + got + ", due are " + want);
        }
    }

    public static void main(String[] args) {
        Set<String> methods = new TreeSet<>();
        for (Method m : CheckSaver.class.getDeclaredMethods()) {
            if (!Modifier.isPrivate(m.getModifiers())) {
                methods.add(m.getName() + "/" + m.getParameterCount());
                due(m.getName() + " is public", Modifier.isPublic(m.getModifiers()) ? 1 : 0, 1);
                due(m.getName() + " answers an int", m.getReturnType() == int.class ? 1 : 0, 1);
            }
        }
        same("methods", methods, METHODS);
        Set<String> fields = new TreeSet<>();
        for (Field f : CheckSaver.class.getDeclaredFields()) {
            if (!Modifier.isPrivate(f.getModifiers())) {
                fields.add(f.getName());
            }
        }
        same("fields", fields, FIELDS);
        Constructor<?>[] made = CheckSaver.class.getDeclaredConstructors();
        due("constructors", made.length, 1);
        due("its parameters", made[0].getParameterCount(), 0);
        int modifiers = CheckSaver.class.getModifiers();
        due("public and final", Modifier.isPublic(modifiers) && Modifier.isFinal(modifiers) ? 1 : 0, 1);
        finish("FaceTest");
    }
}
