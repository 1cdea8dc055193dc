import java.lang.management.ManagementFactory;
import java.lang.reflect.Array;
import java.lang.reflect.Field;
import java.lang.reflect.Modifier;
import java.util.ArrayDeque;
import java.util.Collections;
import java.util.Deque;
import java.util.IdentityHashMap;
import java.util.Set;

/** All calls of a run live in one room: what an object needs is made once, and the calls make nothing anew. */
public final class RoomTest {
    private static final int CALLS = 512;
    private static int answers = 0;

    public static void main(String[] args) throws IllegalAccessException {
        // The first run loads classes, which takes room of another kind.
        dearestRun();
        long before = taken();
        MixedCells m = dearestRun();
        long bytes = taken() - before;
        Due.holds("the dearest run takes " + bytes + " bytes", bytes < 40000);
        Due.holds("the run was not left out", answers != 0);
        parts(m);
        Due.end();
    }

    private static long taken() {
        return ((com.sun.management.ThreadMXBean) ManagementFactory.getThreadMXBean()).getCurrentThreadAllocatedBytes();
    }

    private static MixedCells dearestRun() {
        MixedCells m = new MixedCells();
        for (int k = 0; k < 7; k++) {
            m.put(0, k, k * k % 13, k * k);
            m.put(1, k * k % 13, 12 - k, 7 * k % 11);
        }
        for (int i = 14; i + 10 < CALLS; i += 10) {
            answers += m.cells(0, 1, 2) + m.cells(0, 1, 111) + m.cell(0, 1, 3, 2) + m.slope(0, 1, 3, 0);
            answers += m.fan(0, 2) + m.roots(0, 1, 13) + m.image(0) + m.restore(0);
            answers += m.sum(0, 1, 3) + m.hull(0, 2);
        }
        return m;
    }

    /* LanguageTest sees that calls make none anew: these are all that a run has. The room has 600,000 and 7,300,000. */
    private static void parts(MixedCells m) throws IllegalAccessException {
        Set<Object> seen = Collections.newSetFromMap(new IdentityHashMap<>());
        Deque<Object> open = new ArrayDeque<>();
        seen.add(m);
        open.add(m);
        long elements = 0;
        while (!open.isEmpty()) {
            Object part = open.remove();
            elements += part.getClass().isArray() ? elementsOf(part, seen, open) : fieldsOf(part, seen, open);
        }
        Due.holds(seen.size() + " objects and arrays", seen.size() > 1 && seen.size() < 1000);
        Due.holds(elements + " fields and elements", elements > 1 && elements < 10000);
    }

    private static int elementsOf(Object array, Set<Object> seen, Deque<Object> open) {
        int length = Array.getLength(array);
        if (!array.getClass().getComponentType().isPrimitive()) {
            for (int i = 0; i < length; i++) {
                note(Array.get(array, i), seen, open);
            }
        }
        return length;
    }

    private static int fieldsOf(Object part, Set<Object> seen, Deque<Object> open) throws IllegalAccessException {
        int fields = 0;
        for (Field field : part.getClass().getDeclaredFields()) {
            if (Modifier.isStatic(field.getModifiers())) {
                continue;
            }
            fields++;
            if (!field.getType().isPrimitive()) {
                field.setAccessible(true);
                note(field.get(part), seen, open);
            }
        }
        return fields;
    }

    private static void note(Object part, Set<Object> seen, Deque<Object> open) {
        if (part != null && seen.add(part)) {
            open.add(part);
        }
    }
}
