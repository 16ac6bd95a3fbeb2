import java.lang.reflect.Array;
import java.lang.reflect.Field;
import java.lang.reflect.Modifier;
import java.util.ArrayDeque;
import java.util.Collections;
import java.util.Deque;
import java.util.IdentityHashMap;
import java.util.List;
import java.util.Set;

/**
 * A run of 512 calls has one room of some 600,000 objects and 7.3 million fields and elements: what
 * an object holds, new or after 512 calls that each leave a signal, is a small part of it.
 */
public final class RoomTest {
    private static final int CALLS = 512;
    private static final int OBJECTS = 600_000;
    private static final int ELEMENTS = 7_300_000;
    private static final int PART = 50;

    private int objects = 0;
    private int elements = 0;
    private final Set<Object> seen = Collections.newSetFromMap(new IdentityHashMap<>());
    private final Deque<Object> open = new ArrayDeque<>();

    public static void main(String[] args) throws IllegalAccessException {
        isSmall("a new one", new RoomTest(new CreditLink()));
        isSmall("a used one", new RoomTest(usedUp()));
        Check.end();
    }

    private static void isSmall(String which, RoomTest found) {
        Check.same("objects of " + which + " are few", found.objects < OBJECTS / PART ? 1 : 0, 1);
        Check.same("elements of " + which + " are few", found.elements < ELEMENTS / PART ? 1 : 0, 1);
    }

    /** As many calls as can leave one signal more that waits each. */
    private static CreditLink usedUp() {
        CreditLink x = new CreditLink();
        x.service(1, 3, 40, 25, 2);
        x.connect(0, 3, 50, 23, 1);
        x.take(1);
        x.take(0);
        for (int calls = 5; calls <= CALLS; calls++) {
            x.grant(0, 64, 1);
        }
        return x;
    }

    private RoomTest(Object root) throws IllegalAccessException {
        meet(root);
        while (!open.isEmpty()) {
            look(open.pop());
        }
    }

    private void meet(Object object) {
        if (object != null && seen.add(object)) {
            objects++;
            open.push(object);
        }
    }

    private void look(Object object) throws IllegalAccessException {
        if (object.getClass().isArray()) {
            elements += Array.getLength(object);
            if (object instanceof Object[] row) {
                for (Object element : row) {
                    meet(element);
                }
            }
        } else if (object instanceof List<?> list) {
            objects++;
            elements += 3 + 2 * list.size();
            list.forEach(this::meet);
        } else if (object.getClass().getName().startsWith("CreditLink")) {
            lookAtFields(object);
        }
    }

    private void lookAtFields(Object object) throws IllegalAccessException {
        for (Field field : object.getClass().getDeclaredFields()) {
            if (!Modifier.isStatic(field.getModifiers())) {
                elements++;
                field.setAccessible(true);
                if (!field.getType().isPrimitive()) {
                    meet(field.get(object));
                }
            }
        }
    }
}
