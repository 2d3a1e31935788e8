import java.lang.reflect.Array;
import java.lang.reflect.Field;
import java.lang.reflect.Modifier;
import java.util.ArrayDeque;
import java.util.Collections;
import java.util.Deque;
import java.util.IdentityHashMap;
import java.util.Set;

/** How many objects, fields and elements one TrackRows holds: few, and no more after its calls than before. */
public final class RoomTest {
    private static int objects = 0;
    private static int elements = 0;

    public static void main(String[] args) throws IllegalAccessException {
        TrackRows t = new TrackRows();
        count(t);
        int objectsAtFirst = objects;
        int elementsAtFirst = elements;
        Check.is("objects of a new TrackRows: " + objects, objects < 150, true);
        Check.is("fields and elements of a new TrackRows: " + elements, elements < 4000, true);
        Made.full(t);
        use(t);
        count(t);
        Check.is("objects after many calls", objects, objectsAtFirst);
        Check.is("fields and elements after many calls", elements, elementsAtFirst);
        Check.end();
    }

    private static void use(TrackRows t) {
        for (int k = 0; k < 60; k++) {
            t.matched();
            t.match(k % 5);
            t.pack(k % 5);
            t.repeat(0, 1 + k % 30);
            t.read(k % 5);
            t.feed(0);
        }
    }

    private static void count(TrackRows t) throws IllegalAccessException {
        objects = 0;
        elements = 0;
        Set<Object> seen = Collections.newSetFromMap(new IdentityHashMap<>());
        Deque<Object> open = new ArrayDeque<>();
        open.add(t);
        while (!open.isEmpty()) {
            Object o = open.remove();
            if (seen.add(o)) {
                objects++;
                countInside(o, open);
            }
        }
    }

    private static void countInside(Object o, Deque<Object> open) throws IllegalAccessException {
        if (o.getClass().isArray()) {
            boolean ofNumbers = o.getClass().getComponentType().isPrimitive();
            elements += Array.getLength(o);
            for (int k = 0; !ofNumbers && k < Array.getLength(o); k++) {
                follow(Array.get(o, k), open);
            }
            return;
        }
        for (Field f : o.getClass().getDeclaredFields()) {
            if (!Modifier.isStatic(f.getModifiers())) {
                elements++;
                f.setAccessible(true);
                follow(f.getType().isPrimitive() ? null : f.get(o), open);
            }
        }
    }

    private static void follow(Object o, Deque<Object> open) {
        if (o != null) {
            open.add(o);
        }
    }
}
