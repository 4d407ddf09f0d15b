import java.lang.reflect.Array;
import java.lang.reflect.Field;
import java.lang.reflect.Modifier;
import java.util.ArrayDeque;
import java.util.Collections;
import java.util.Deque;
import java.util.IdentityHashMap;
import java.util.Set;

/** Rule 12: the room that the fullest object takes, and that calls which make nothing take none. */
final class RoomTest {
    private static final int MOST_OBJECTS_AND_ROWS = 500;
    private static final int MOST_FIELDS_AND_ELEMENTS = 2000;
    private static final Checks CHECKS = new Checks("RoomTest");

    private final Set<Object> met = Collections.newSetFromMap(new IdentityHashMap<>());
    private final Deque<Object> waiting = new ArrayDeque<>();
    private int fieldsAndElements;

    private RoomTest(Object from) throws IllegalAccessException {
        meet(from);
        while (!waiting.isEmpty()) {
            Object next = waiting.pop();
            if (next.getClass().isArray()) {
                countRow(next);
            } else {
                countFields(next);
            }
        }
    }

    public static void main(String[] args) throws IllegalAccessException {
        CapabilityDomains x = fullest();
        RoomTest room = new RoomTest(x);
        CHECKS.check("objects and rows, at most " + MOST_OBJECTS_AND_ROWS + ": " + room.met.size(),
                String.valueOf(room.met.size() <= MOST_OBJECTS_AND_ROWS), "true");
        CHECKS.check("fields and elements, at most " + MOST_FIELDS_AND_ELEMENTS + ": "
                + room.fieldsAndElements,
                String.valueOf(room.fieldsAndElements <= MOST_FIELDS_AND_ELEMENTS), "true");
        freeAndMakeAgain(x);
        CHECKS.check("the room after objects were freed and made again",
                new RoomTest(x).toString(), room.toString());
        CHECKS.finish();
    }

    private static CapabilityDomains fullest() {
        CapabilityDomains x = new CapabilityDomains();
        for (int d = 0; d < 6; d++) {
            x.domain();
            Limits.addObjects(x, d, 12);
            for (int s = 0; s < 6; s++) {
                x.export(d, s, s, 31, -1);
            }
        }
        Limits.makeForty(x, 0, 7);
        return x;
    }

    private static void freeAndMakeAgain(CapabilityDomains x) {
        for (int d = 0; d < 6; d++) {
            for (int s = 0; s < 5; s++) {
                x.free(d, s);
            }
            x.pass(d, 5, 0, 6);
            Limits.addObjects(x, d, 4);
        }
    }

    @Override
    public String toString() {
        return met.size() + " with " + fieldsAndElements;
    }

    private void meet(Object met) {
        if (met != null && this.met.add(met)) {
            waiting.push(met);
        }
    }

    private void countRow(Object row) {
        fieldsAndElements += Array.getLength(row);
        if (row instanceof Object[]) {
            for (Object element : (Object[]) row) {
                meet(element);
            }
        }
    }

    private void countFields(Object owner) throws IllegalAccessException {
        for (Field field : owner.getClass().getDeclaredFields()) {
            if (!Modifier.isStatic(field.getModifiers())) {
                fieldsAndElements++;
                if (!field.getType().isPrimitive()) {
                    field.setAccessible(true);
                    meet(field.get(owner));
                }
            }
        }
    }
}
