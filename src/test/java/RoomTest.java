import java.lang.management.ManagementFactory;
import java.lang.reflect.Array;
import java.lang.reflect.Field;
import java.lang.reflect.Modifier;
import java.util.ArrayDeque;
import java.util.Collections;
import java.util.IdentityHashMap;
import java.util.Set;

/** All calls of a run live in one room; were each of 512 calls as dear as the dearest, they still would. */
public final class RoomTest {
    private static final Check check = new Check();
    private static final int CALLS = 512, OBJECTS = 600_000, ELEMENTS = 7_300_000;
    private static final int WARM_UP = 20;
    // What the machine itself may make while it counts.
    private static final long SLACK = 4096;

    private int objects;
    private int elements;

    public static void main(String[] args) throws IllegalAccessException {
        newObject();
        eachChange();
        nothingMadeAfterSixChanges();
        check.end();
    }

    private static RoomTest of(DueWheels x) throws IllegalAccessException {
        RoomTest room = new RoomTest();
        Set<Object> seen = Collections.newSetFromMap(new IdentityHashMap<>());
        ArrayDeque<Object> open = new ArrayDeque<>();
        open.add(x);
        while (!open.isEmpty()) {
            Object o = open.remove();
            if (seen.add(o)) {
                room.add(o, open);
            }
        }
        return room;
    }

    private void add(Object o, ArrayDeque<Object> open) throws IllegalAccessException {
        objects++;
        if (o.getClass().isArray()) {
            int length = Array.getLength(o);
            elements += length;
            for (int i = 0; i < length && o instanceof Object[]; i++) {
                follow(Array.get(o, i), open);
            }
            return;
        }
        for (Field f : o.getClass().getDeclaredFields()) {
            if (!Modifier.isStatic(f.getModifiers())) {
                elements++;
                f.setAccessible(true);
                if (!f.getType().isPrimitive()) {
                    follow(f.get(o), open);
                }
            }
        }
    }

    private static void follow(Object o, ArrayDeque<Object> open) {
        if (o != null) {
            open.add(o);
        }
    }

    private static void fits(String call, int objects, int elements) {
        check.holds(call + " makes " + objects + " objects", objects * CALLS <= OBJECTS);
        check.holds(call + " makes " + elements + " elements", elements * CALLS <= ELEMENTS);
    }

    private static void newObject() throws IllegalAccessException {
        check.promise("room of a new object");
        RoomTest room = of(new DueWheels());
        fits("new", room.objects, room.elements);
    }

    private static void eachChange() throws IllegalAccessException {
        check.promise("room of a change");
        DueWheels x = new DueWheels();
        RoomTest before = of(x);
        for (int change = 0; change < 40; change++) {
            change(x, change);
            RoomTest after = of(x);
            fits("change " + change, after.objects - before.objects, after.elements - before.elements);
            check.holds("change " + change + " makes more",
                    change < 6 || after.objects == before.objects && after.elements == before.elements);
            before = after;
        }
    }

    private static void change(DueWheels x, int change) {
        switch (change % 9) {
            case 0: x.once(x.now() + 70, 1); break;
            case 1: x.often(x.now() + 3, 2, 0, 2); break;
            case 2: x.loose(x.now(), x.now() + 9, 3); break;
            case 3: x.chained(0, 4, 5, 4); break;
            case 4: x.settle(); break;
            case 5: x.go(x.now() + 5); break;
            case 6: x.shift(0, 1); break;
            case 7: x.undo(); break;
            default: x.drop(1); break;
        }
    }

    private static void ask(DueWheels x) {
        x.about(0, 2);
        x.isOf(0, 1);
        x.went(0, 0);
        x.next();
        x.fewest();
        x.lies(0, 0);
        x.bits(0);
        x.many(0, 1);
        x.in(0, 1, 0);
        x.now();
        x.count(0);
    }

    private static long madeBytes() {
        return ((com.sun.management.ThreadMXBean) ManagementFactory.getThreadMXBean())
                .getThreadAllocatedBytes(Thread.currentThread().getId());
    }

    private static void nothingMadeAfterSixChanges() {
        check.promise("what calls make and let go");
        DueWheels x = new DueWheels();
        madeBytes();
        long before = 0;
        for (int call = 0; call < 40; call++) {
            if (call == WARM_UP) {
                before = madeBytes();
            }
            change(x, call);
            ask(x);
        }
        long made = madeBytes() - before;
        check.holds(made + " bytes were made", made <= SLACK);
    }
}
