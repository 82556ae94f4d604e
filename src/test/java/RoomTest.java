import com.sun.management.ThreadMXBean;
import java.lang.management.ManagementFactory;
import java.lang.reflect.Array;
import java.lang.reflect.Field;
import java.lang.reflect.Modifier;
import java.util.ArrayDeque;
import java.util.Collections;
import java.util.Deque;
import java.util.IdentityHashMap;
import java.util.Set;

/**
 * All calls of a run live in one room of some 600,000 objects and 7,300,000 fields and elements: an object is small,
 * does not grow, and its calls make nothing but the exceptions that they throw.
 */
public final class RoomTest {
    private static final int MOST_OBJECTS = 1000;
    private static final int MOST_PARTS = 10000;
    // Below sixteen bytes, the least that an object has, for each of the calls.
    private static final long MOST_BYTES = 4096;

    private int objects;
    private int parts;

    public static void main(String[] args) throws IllegalAccessException {
        FrameSwapper screen = new FrameSwapper();
        RoomTest before = count(screen);
        Checks.same("objects", before.objects <= MOST_OBJECTS ? 1 : 0, 1);
        Checks.same("fields and elements", before.parts <= MOST_PARTS ? 1 : 0, 1);
        use(screen);
        RoomTest after = count(screen);
        Checks.same("objects behind 512 calls", after.objects, before.objects);
        Checks.same("fields and elements behind 512 calls", after.parts, before.parts);
        callsMakeNothing();
        Checks.end();
    }

    private static RoomTest count(FrameSwapper screen) throws IllegalAccessException {
        RoomTest room = new RoomTest();
        Set<Object> known = Collections.newSetFromMap(new IdentityHashMap<>());
        Deque<Object> open = new ArrayDeque<>();
        open.add(screen);
        while (!open.isEmpty()) {
            Object object = open.remove();
            if (known.add(object)) {
                room.add(object, open);
            }
        }
        return room;
    }

    private void add(Object object, Deque<Object> open) throws IllegalAccessException {
        objects++;
        if (object.getClass().isArray()) {
            int length = Array.getLength(object);
            parts += length;
            for (int i = 0; i < length && !object.getClass().getComponentType().isPrimitive(); i++) {
                open.add(Array.get(object, i));
            }
            return;
        }
        for (Field field : object.getClass().getDeclaredFields()) {
            if (!Modifier.isStatic(field.getModifiers())) {
                parts++;
                field.setAccessible(true);
                if (!field.getType().isPrimitive()) {
                    open.add(field.get(object));
                }
            }
        }
    }

    private static void callsMakeNothing() {
        // A machine that can't count what a thread makes has only the first half of this test.
        if (!(ManagementFactory.getThreadMXBean() instanceof ThreadMXBean thread)
            || !thread.isThreadAllocatedMemorySupported() || !thread.isThreadAllocatedMemoryEnabled()) {
            return;
        }
        // The first time, classes are loaded and made ready.
        use(new FrameSwapper());
        thread.getCurrentThreadAllocatedBytes();
        FrameSwapper screen = new FrameSwapper();
        long before = thread.getCurrentThreadAllocatedBytes();
        int made = use(screen);
        long bytes = thread.getCurrentThreadAllocatedBytes() - before;
        Checks.same("most of 512 calls", made > 450 && made <= 512 ? 1 : 0, 1);
        Checks.same("bytes made by calls: " + bytes, bytes >= 0 && bytes <= MOST_BYTES ? 1 : 0, 1);
    }

    /** Each method, most of them often, with surfaces in planes and in memory, that come and go; how many calls. */
    private static int use(FrameSwapper screen) {
        int calls = 0;
        for (int i = 0; i < 8; i++) {
            screen.surface(i % 4, 3 + i % 4, 5);
            screen.fill(i, 0, 0, 9, 9, 100 * i);
            screen.place(i, 2 * i, i % 5, i, 16 - i % 2, true);
            calls += 3;
        }
        for (int turn = 0; turn < 12; turn++) {
            int s = turn % 8;
            screen.put(s, 1, 1, turn);
            screen.copy(s, (s + 4) % 8, 0, 0, 3, 3, 1, 1);
            screen.clip(s, turn % 2, 0, 5, 5);
            screen.place(s, turn, turn % 6, turn % 10, 12 + turn % 5, true);
            calls += 4;
            for (int client = 0; client < 4; client++) {
                screen.commit(client);
                calls++;
            }
            screen.draw(2);
            screen.draw(200);
            calls += 2;
            for (int i = 0; i < 22; i++) {
                screen.scan();
                calls++;
            }
            screen.count(0);
            screen.missed(0, 0);
            screen.wanted(turn, 2);
            screen.seen(turn, 2);
            screen.plane(0);
            screen.state();
            screen.free();
            calls += 7;
        }
        screen.destroy(0);
        screen.commit(0);
        screen.draw(200);
        screen.surface(1, 3, 3);
        return calls + 4;
    }
}
