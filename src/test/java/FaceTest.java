import java.lang.reflect.Constructor;
import java.lang.reflect.Field;
import java.lang.reflect.Method;
import java.lang.reflect.Modifier;
import java.util.Arrays;
import java.util.Set;
import java.util.TreeSet;

/** The class has the document's face and nothing else that a caller could see. */
public final class FaceTest {
    private static final String[] FACE = {
        "int nodes[]",
        "boolean on[int, int]",
        "boolean off[int]",
        "boolean thaw[int]",
        "boolean mute[int]",
        "boolean deafen[int]",
        "boolean shift[int, int]",
        "int run[int]",
        "int slots[]",
        "int bus[]",
        "int mode[int]",
        "int members[int]",
        "int time[int]",
        "int counts[int]",
        "int patience[int]",
        "int gap[int, int]",
        "boolean united[]",
    };

    public static void main(String[] args) {
        Checks checks = new Checks();
        Set<String> wanted = new TreeSet<>(Arrays.asList(FACE));
        Set<String> names = new TreeSet<>();
        for (String method : FACE) {
            names.add(method.substring(method.indexOf(' ') + 1, method.indexOf('[')));
        }
        for (Method method : SlotCluster.class.getDeclaredMethods()) {
            String face = method.getReturnType() + " " + method.getName() + Arrays.toString(method.getParameterTypes());
            if (Modifier.isPublic(method.getModifiers())) {
                checks.due("the document has " + face, wanted.remove(face), true);
            } else {
                checks.due(face + " is private", Modifier.isPrivate(method.getModifiers()), true);
                checks.due(face + " bears the name of a public method", names.contains(method.getName()), false);
            }
        }
        for (String face : wanted) {
            checks.fail("no public method " + face);
        }
        for (Field field : SlotCluster.class.getDeclaredFields()) {
            checks.due(field.getName() + " is private", Modifier.isPrivate(field.getModifiers()), true);
            boolean changes = Modifier.isStatic(field.getModifiers()) && !Modifier.isFinal(field.getModifiers());
            checks.due(field.getName() + " is static and not final", changes, false);
        }
        Constructor<?>[] constructors = SlotCluster.class.getDeclaredConstructors();
        checks.due("constructors", constructors.length, 1);
        checks.due("constructor is public", Modifier.isPublic(constructors[0].getModifiers()), true);
        checks.due("constructor takes an int",
            Arrays.equals(constructors[0].getParameterTypes(), new Class<?>[] {int.class}), true);
        checks.due("class is public", Modifier.isPublic(SlotCluster.class.getModifiers()), true);
        checks.due("class is final", Modifier.isFinal(SlotCluster.class.getModifiers()), true);
        checks.end();
    }
}
