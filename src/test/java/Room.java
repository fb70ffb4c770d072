import java.lang.reflect.Array;
import java.lang.reflect.Field;
import java.lang.reflect.Modifier;
import java.util.ArrayDeque;
import java.util.Collections;
import java.util.Deque;
import java.util.IdentityHashMap;
import java.util.Set;

/** How many objects and arrays hang together from one object, and how many fields and elements they have. */
final class Room {
    private final Set<Object> seen = Collections.newSetFromMap(new IdentityHashMap<>());
    private final Deque<Object> open = new ArrayDeque<>();
    private int elements = 0;

    Room(Object from) throws IllegalAccessException {
        find(from);
        while (!open.isEmpty()) {
            Object one = open.remove();
            if (one.getClass().isArray()) {
                lookThrough(one);
            } else {
                lookInto(one);
            }
        }
    }

    int objects() {
        return seen.size();
    }

    int elements() {
        return elements;
    }

    private void find(Object one) {
        if (one != null && seen.add(one)) {
            open.add(one);
        }
    }

    private void lookThrough(Object array) {
        elements += Array.getLength(array);
        if (array instanceof Object[]) {
            for (Object one : (Object[]) array) {
                find(one);
            }
        }
    }

    private void lookInto(Object one) throws IllegalAccessException {
        for (Field f : one.getClass().getDeclaredFields()) {
            if (Modifier.isStatic(f.getModifiers())) {
                continue;
            }
            elements++;
            if (!f.getType().isPrimitive()) {
                f.setAccessible(true);
                find(f.get(one));
            }
        }
    }
}
