import java.lang.reflect.Array;
import java.lang.reflect.Field;
import java.lang.reflect.Modifier;
import java.util.ArrayDeque;
import java.util.Collections;
import java.util.Deque;
import java.util.IdentityHashMap;
import java.util.List;
import java.util.Set;

/**
 * A run of 512 calls has one room of some 600,000 objects and 7.3 million fields and elements: even
 * if each of them made an object, it would be enough.
 */
public final class RoomTest {
    private static final int CALLS = 512;
    private static final int OBJECTS = 600_000;
    private static final int ELEMENTS = 7_300_000;

    private int objects = 0;
    private int elements = 0;
    private final Set<Object> seen = Collections.newSetFromMap(new IdentityHashMap<>());
    private final Deque<Object> open = new ArrayDeque<>();

    public static void main(String[] args) throws IllegalAccessException {
        RoomTest fresh = new RoomTest(new CreditLink());
        RoomTest used = new RoomTest(usedUp());
        Check.same("objects are few", fresh.objects < OBJECTS / CALLS / 2 ? 1 : 0, 1);
        Check.same("elements are few", fresh.elements < ELEMENTS / CALLS ? 1 : 0, 1);
        Check.same("a call keeps few objects", used.objects < fresh.objects + 4 * CALLS ? 1 : 0, 1);
        Check.same("a call keeps few elements", used.elements < fresh.elements + 40 * CALLS ? 1 : 0, 1);
        Check.end();
    }

    /** As many calls as can leave one signal more that waits each. */
    private static CreditLink usedUp() {
        CreditLink x = new CreditLink();
        x.service(1, 3, 40, 25, 2);
        x.connect(0, 3, 50, 23, 1);
        x.take(1);
        x.take(0);
        for (int calls = 5; calls <= CALLS; calls++) {
            x.grant(0, 64, 1);
        }
        return x;
    }

    private RoomTest(Object root) throws IllegalAccessException {
        meet(root);
        while (!open.isEmpty()) {
            look(open.pop());
        }
    }

    private void meet(Object object) {
        if (object != null && seen.add(object)) {
            objects++;
            open.push(object);
        }
    }

    private void look(Object object) throws IllegalAccessException {
        if (object.getClass().isArray()) {
            elements += Array.getLength(object);
            if (object instanceof Object[] row) {
                for (Object element : row) {
                    meet(element);
                }
            }
        } else if (object instanceof List<?> list) {
            objects++;
            elements += 3 + 2 * list.size();
            list.forEach(this::meet);
        } else {
            lookAtFields(object);
        }
    }

    private void lookAtFields(Object object) throws IllegalAccessException {
        for (Field field : object.getClass().getDeclaredFields()) {
            if (!Modifier.isStatic(field.getModifiers())) {
                elements++;
                field.setAccessible(true);
                if (!field.getType().isPrimitive()) {
                    meet(field.get(object));
                }
            }
        }
    }
}
