import java.lang.reflect.Array;
import java.lang.reflect.Field;

/**
 * The numbers of a node as the object holds them, by their names in the class: for the few sentences
 * that no run of calls within the document's limits can put to the test.
 */
final class Inner {
    private Inner() {
    }

    static int get(SlotCluster x, int node, String name) {
        try {
            Object holder = node(x, node);
            return field(holder, name).getInt(holder);
        } catch (ReflectiveOperationException e) {
            throw new IllegalStateException(e);
        }
    }

    static void put(SlotCluster x, int node, String name, int value) {
        try {
            Object holder = node(x, node);
            field(holder, name).setInt(holder, value);
        } catch (ReflectiveOperationException e) {
            throw new IllegalStateException(e);
        }
    }

    static boolean is(SlotCluster x, int node, String name) {
        try {
            Object holder = node(x, node);
            return field(holder, name).getBoolean(holder);
        } catch (ReflectiveOperationException e) {
            throw new IllegalStateException(e);
        }
    }

    static int deviations(SlotCluster x, int node) {
        try {
            Object holder = node(x, node);
            Object deviations = field(holder, "deviations").get(holder);
            return field(deviations, "count").getInt(deviations);
        } catch (ReflectiveOperationException e) {
            throw new IllegalStateException(e);
        }
    }

    private static Object node(SlotCluster x, int node) throws ReflectiveOperationException {
        return Array.get(field(x, "cluster").get(x), node);
    }

    private static Field field(Object holder, String name) throws ReflectiveOperationException {
        Field field = holder.getClass().getDeclaredField(name);
        field.setAccessible(true);
        return field;
    }
}
