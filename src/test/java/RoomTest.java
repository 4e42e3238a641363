import com.sun.management.ThreadMXBean;
import java.lang.management.ManagementFactory;
import java.lang.reflect.Array;
import java.lang.reflect.Field;
import java.lang.reflect.Modifier;
import java.util.Collections;
import java.util.IdentityHashMap;
import java.util.Set;

/** All calls of a run live in one room: a night's rows are made with it, and its 512 calls make no more. */
public final class RoomTest {
    private static final int CALLS = 512;
    private static final int ROUNDS = 16;
    private static final int ROOM_OBJECTS = 600_000;
    private static final int ROOM_ELEMENTS = 7_300_000;
    private static final int LEAST_OBJECT_BYTES = 16;

    public static void main(String[] args) throws IllegalAccessException {
        rowsAreKept();
        callsMakeNoObjects();
        Check.finish();
    }

    /** A run has at most as many nights as calls; all of them find room. */
    private static void rowsAreKept() throws IllegalAccessException {
        NightMove x = new NightMove();
        Set<Object> before = objectsOf(x);
        int elements = elementsOf(before);
        Check.due(before.size() + " objects find room", CALLS * before.size() <= ROOM_OBJECTS, true);
        Check.due(elements + " elements find room", CALLS * elements <= ROOM_ELEMENTS, true);
        useUp(x);
        Set<Object> after = objectsOf(x);
        Check.due("the same objects behind 512 calls", after.size() == before.size() && before.containsAll(after), true);
        Check.due("as many elements behind 512 calls", elementsOf(after), elements);
    }

    private static Set<Object> objectsOf(Object root) throws IllegalAccessException {
        Set<Object> found = Collections.newSetFromMap(new IdentityHashMap<>());
        collect(root, found);
        return found;
    }

    private static void collect(Object object, Set<Object> found) throws IllegalAccessException {
        if (object == null || !found.add(object) || object.getClass().isArray()) {
            return;
        }
        for (Field field : object.getClass().getDeclaredFields()) {
            if (!Modifier.isStatic(field.getModifiers()) && !field.getType().isPrimitive()) {
                field.setAccessible(true);
                collect(field.get(object), found);
            }
        }
    }

    private static int elementsOf(Set<Object> objects) {
        int sum = 0;
        for (Object object : objects) {
            sum += object.getClass().isArray() ? Array.getLength(object) : object.getClass().getDeclaredFields().length;
        }
        return sum;
    }

    /** What is dropped again counts too, so bytes are asked for: one object a round would be seen. */
    private static void callsMakeNoObjects() {
        ThreadMXBean threads = (ThreadMXBean) ManagementFactory.getThreadMXBean();
        long thread = Thread.currentThread().getId();
        useUp(new NightMove());
        long before = threads.getThreadAllocatedBytes(thread);
        NightMove x = new NightMove();
        long behindNew = threads.getThreadAllocatedBytes(thread);
        useUp(x);
        long made = threads.getThreadAllocatedBytes(thread) - behindNew;
        Check.due("bytes made are told", behindNew - before > LEAST_OBJECT_BYTES, true);
        Check.due("bytes made by 512 calls: " + made, made < ROUNDS * LEAST_OBJECT_BYTES, true);
    }

    /** 16 rounds of 32 calls, every call of the face among them. */
    private static void useUp(NightMove x) {
        for (int round = 0; round < ROUNDS; round++) {
            tellGoods(x, round);
            askRoad(x, round);
            goThroughStages(x);
            useTape(x);
        }
    }

    private static void tellGoods(NightMove x, int round) {
        x.thing(round, 500 + round, 5 + round, 10 * round);
        x.convoy(20 + round, 1 + round % 3, 40);
        x.set(30, 2, 480);
        x.least();
        x.share(round);
        if (round == 11) {
            x.settle();
        } else {
            x.count(round);
        }
    }

    private static void askRoad(NightMove x, int round) {
        x.late(round % 4, 5);
        x.road(round % 4, 0, 2);
        x.place(round % 10, 60, 0);
        x.lacks(round % 10, 0);
        x.many(1, 60, 0);
    }

    private static void goThroughStages(NightMove x) {
        x.stage(2, 0, 1, false);
        x.begin(0);
        x.tick(1);
        x.told(0, 2);
        x.ready();
        x.fail(0);
        x.back();
        x.whole();
        x.tick(1);
    }

    private static void useTape(NightMove x) {
        x.find();
        x.close(0);
        x.end(0);
        x.feed(0x6e3c3530);
        x.feed(0x7c28663d);
        x.feed(0x3129);
        x.fault();
        x.rule();
        x.go();
        x.feed(0x6e3c3530);
        x.end(2);
        x.count(8);
    }
}
