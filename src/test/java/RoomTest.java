import com.sun.management.ThreadMXBean;
import java.lang.management.ManagementFactory;
import java.lang.reflect.Array;
import java.lang.reflect.Field;
import java.lang.reflect.Modifier;
import java.util.ArrayDeque;
import java.util.Collections;
import java.util.Deque;
import java.util.IdentityHashMap;
import java.util.Set;

/** The room that all calls of one run share: a small object is made once, and no call makes another one. */
public final class RoomTest {
    private static final int MOST_OBJECTS = 100;
    private static final int MOST_FIELDS = 1500;
    private static final int ROUNDS = 200;

    private static final Due DUE = new Due();

    private int objects;
    private int fields;

    public static void main(String[] args) throws IllegalAccessException {
        RoomTest room = new RoomTest();
        room.measure(Roads.full());
        DUE.is("few objects and arrays, not " + room.objects, 1, room.objects <= MOST_OBJECTS ? 1 : 0);
        DUE.is("few fields and elements, not " + room.fields, 1, room.fields <= MOST_FIELDS ? 1 : 0);
        DUE.is("the bytes that all calls make in one round", 0, bytesMadeByCalls(Roads.full()));
        DUE.end("RoomTest");
    }

    /** All that can be reached from one object. */
    private void measure(Object first) throws IllegalAccessException {
        Set<Object> found = Collections.newSetFromMap(new IdentityHashMap<>());
        Deque<Object> next = new ArrayDeque<>();
        next.add(first);
        while (!next.isEmpty()) {
            Object one = next.remove();
            if (found.add(one)) {
                objects++;
                if (one.getClass().isArray()) {
                    fields += Array.getLength(one);
                } else {
                    look(one, next);
                }
            }
        }
    }

    private void look(Object one, Deque<Object> next) throws IllegalAccessException {
        for (Field field : one.getClass().getDeclaredFields()) {
            if (!Modifier.isStatic(field.getModifiers())) {
                fields++;
                field.setAccessible(true);
                Object value = field.get(one);
                if (!field.getType().isPrimitive() && value != null) {
                    next.add(value);
                }
            }
        }
    }

    /** In one round of all calls; less than one byte is the machine's own. */
    private static long bytesMadeByCalls(MileRoad x) {
        ThreadMXBean threads = (ThreadMXBean) ManagementFactory.getThreadMXBean();
        long self = Thread.currentThread().getId();
        callAll(x, 0);
        threads.getThreadAllocatedBytes(self);
        long before = threads.getThreadAllocatedBytes(self);
        for (int round = 0; round < ROUNDS; round++) {
            callAll(x, round);
        }
        long made = threads.getThreadAllocatedBytes(self) - before;
        return made / ROUNDS;
    }

    private static void callAll(MileRoad x, int round) {
        tell(x, "road 20;hill 2 9 9;mile 7;steady 3;old 2;drunk 4;back 5;old 9;drunk 1");
        for (int i = 0; i < 9; i++) {
            int k = 1 + (round + i) % 8;
            change(x, i, k);
            ask(x, i, k);
        }
        tell(x, "hill 3 2 1");
        x.erase();
    }

    private static void tell(MileRoad x, String text) {
        x.erase();
        for (int i = 0; i < text.length(); i++) {
            x.write(text.charAt(i));
        }
        x.fault();
        x.road();
    }

    private static void change(MileRoad x, int i, int k) {
        x.walks(i - 1, 1);
        x.flatten(i + 1, k);
        x.mile(k + i);
        x.undo();
        x.keep(i % 2);
        x.walks(i, i % 2);
        x.back(i % 2);
        x.seen(i, k, x.stone(i, k));
        x.seen(i, k, 3);
    }

    private static void ask(MileRoad x, int i, int k) {
        for (int what = -1; what <= 2; what++) {
            x.walker(i, what + 2);
            x.as(i, what + 2);
            x.law(k, what);
            x.turns(k, what);
        }
        x.crossed();
        x.books(i, 20 - k);
        x.send(k, i * 2, 0);
        x.send(k, i * 2, 1);
        x.what(i);
        x.miles(0);
        x.miles(1);
        x.cider(k, i * 2, i, 0);
        x.cider(k, i * 2, i, 1);
        x.count(i);
        x.step(i);
        x.forget();
    }
}
