import java.lang.reflect.Field;
import java.lang.reflect.Modifier;
import java.util.ArrayList;
import java.util.List;

/** Reads and breaks what a BinMap holds inside, which no call of its face can do. */
final class Inside {
    private final Object holder;
    private final Field field;

    /** A path such as "bins.trees.left". */
    Inside(Object root, String path) {
        Object at = root;
        String[] names = path.split("\\.");
        for (int i = 0; i + 1 < names.length; i++) {
            at = valueOf(fieldOf(at, names[i]), at);
        }
        holder = at;
        field = fieldOf(at, names[names.length - 1]);
    }

    int[] row() {
        return (int[]) valueOf(field, holder);
    }

    int number() {
        return (int) valueOf(field, holder);
    }

    void set(int number) {
        try {
            field.setInt(holder, number);
        } catch (IllegalAccessException e) {
            throw new IllegalStateException(e);
        }
    }

    /** Every object and row that the map holds, itself too, each once. */
    static List<Object> allWithin(Object map) {
        List<Object> found = new ArrayList<>();
        found.add(map);
        for (int i = 0; i < found.size(); i++) {
            Object each = found.get(i);
            for (Field inner : each.getClass().getDeclaredFields()) {
                if (!inner.getType().isPrimitive() && !Modifier.isStatic(inner.getModifiers())) {
                    addOnce(found, valueOf(inner, each));
                }
            }
        }
        return found;
    }

    static int fieldsOf(Object each) {
        if (each instanceof int[] row) {
            return row.length;
        }
        return each.getClass().getDeclaredFields().length;
    }

    private static void addOnce(List<Object> found, Object value) {
        for (Object each : found) {
            if (each == value) {
                return;
            }
        }
        if (value != null) {
            found.add(value);
        }
    }

    private static Field fieldOf(Object object, String name) {
        try {
            return object.getClass().getDeclaredField(name);
        } catch (NoSuchFieldException e) {
            throw new IllegalStateException(e);
        }
    }

    private static Object valueOf(Field field, Object object) {
        try {
            field.setAccessible(true);
            return field.get(object);
        } catch (IllegalAccessException e) {
            throw new IllegalStateException(e);
        }
    }
}
