import com.sun.management.ThreadMXBean;
import java.lang.management.ManagementFactory;
import java.lang.reflect.Array;
import java.lang.reflect.Field;
import java.lang.reflect.Modifier;
import java.util.ArrayDeque;
import java.util.Collections;
import java.util.Deque;
import java.util.IdentityHashMap;
import java.util.Set;

/** All calls of a run live in one room: what an object keeps is made by its constructor, and no call makes more. */
public final class RoomTest {
    private static final Check CHECK = new Check("RoomTest");
    private static final int MOST_OBJECTS = 600, MOST_ELEMENTS = 6000, MOST_CALLS = 512;
    private static final int TRIES = 20, CALLS_EACH = 20;

    private int objects;
    private int elements;

    private interface Use {
        long call(DrillField field);
    }

    public static void main(String[] args) throws Exception {
        newObject();
        afterAllCalls();
        bytesAreSeen();
        noCallMakesObjects();
        CHECK.end();
    }

    private static void newObject() throws Exception {
        RoomTest room = of(new DrillField());
        CHECK.holds("objects and arrays of a new object: " + room.objects,
                room.objects > 10 && room.objects <= MOST_OBJECTS);
        CHECK.holds("fields and elements of a new object: " + room.elements,
                room.elements > 100 && room.elements <= MOST_ELEMENTS);
    }

    private static void afterAllCalls() throws Exception {
        RoomTest before = of(new DrillField());
        DrillField field = full();
        for (int call = 100; call < MOST_CALLS; call++) {
            field.change(call % 12, call % 12, 1 + call % 64, 60 + call % 181, call % 2 == 0);
        }
        RoomTest after = of(field);
        CHECK.due("objects and arrays after all calls", after.objects, before.objects);
        CHECK.due("fields and elements after all calls", after.elements, before.elements);
    }

    /** Else that no bytes are made would hold of itself. */
    private static void bytesAreSeen() {
        CHECK.holds("bytes of a new object are seen", leastMade(field -> new DrillField().lasts()) > 1000 * CALLS_EACH);
    }

    private static void noCallMakesObjects() {
        noneMade("part, cut", field -> field.cut() + field.part(3, 64, 240, true));
        noneMade("change", field -> {
            field.change(0, 0, 64, 60, true);
            return 0;
        });
        noneMade("place, walking, at", field -> field.place(11, 9) + field.walking(11) + field.at(11, 64, 9));
        noneMade("fault", field -> field.fault(11, 0));
        noneMade("agrees", field -> field.agrees() ? 1 : 0);
        noneMade("phase, caught", field -> field.phase(11, 64, 0, -1) + (field.caught(11, 3, 9, 9, 20) ? 1 : 0));
        noneMade("page, publish, changed", field -> field.page(11, 9, 0) + field.publish() + field.changed());
        noneMade("clock, judge, penalty", field -> {
            field.clock(1, 2);
            return field.judge(0, 0, 1000) + field.penalty(0, 1);
        });
        noneMade("ranked, lasts, rehearse", field -> field.ranked(5) + field.lasts() + field.rehearse(9999, 30));
        noneMade("legs, ill, alternate", field -> {
            field.alternate(2, 9, false);
            return field.legs(9, 40) + (field.ill(9, false) ? 1 : 0);
        });
    }

    private static void noneMade(String calls, Use use) {
        CHECK.due("bytes made by " + calls, leastMade(use), 0);
    }

    /** The machine itself may make objects while a call is new to it, so the least of several tries is looked at. */
    private static long leastMade(Use use) {
        ThreadMXBean threads = (ThreadMXBean) ManagementFactory.getThreadMXBean();
        long thread = Thread.currentThread().getId();
        long least = Long.MAX_VALUE;
        for (int tried = 0; tried < TRIES; tried++) {
            DrillField field = full();
            long before = threads.getThreadAllocatedBytes(thread);
            for (int call = 0; call < CALLS_EACH; call++) {
                use.call(field);
            }
            least = Math.min(least, threads.getThreadAllocatedBytes(thread) - before);
        }
        return least;
    }

    /** As much as can be told: 10 dots, 12 sets, 12 parts of 64 counts without a fault that would end the looking. */
    private static DrillField full() {
        DrillField field = Scenes.withDots(10);
        Scenes.longestLegs(field, 10);
        for (int set = 0; set < 12; set++) {
            field.block(100 + 7 * set, 100, 4, 20);
        }
        for (int part = 0; part < 12; part++) {
            field.part(part, 64, 120, true);
        }
        return field;
    }

    private static RoomTest of(DrillField field) throws Exception {
        RoomTest room = new RoomTest();
        room.count(field);
        return room;
    }

    private void count(Object first) throws Exception {
        Set<Object> seen = Collections.newSetFromMap(new IdentityHashMap<>());
        Deque<Object> open = new ArrayDeque<>();
        open.add(first);
        while (!open.isEmpty()) {
            Object object = open.remove();
            if (seen.add(object)) {
                objects++;
                if (object.getClass().isArray()) {
                    countArray(object, open);
                } else {
                    countFields(object, open);
                }
            }
        }
    }

    private void countArray(Object array, Deque<Object> open) {
        elements += Array.getLength(array);
        for (int i = 0; i < Array.getLength(array) && !array.getClass().getComponentType().isPrimitive(); i++) {
            if (Array.get(array, i) != null) {
                open.add(Array.get(array, i));
            }
        }
    }

    private void countFields(Object object, Deque<Object> open) throws Exception {
        for (Field field : object.getClass().getDeclaredFields()) {
            if (!Modifier.isStatic(field.getModifiers())) {
                elements++;
                field.setAccessible(true);
                if (!field.getType().isPrimitive() && field.get(object) != null) {
                    open.add(field.get(object));
                }
            }
        }
    }
}
