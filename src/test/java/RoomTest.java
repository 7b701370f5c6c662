import com.sun.management.ThreadMXBean;
import java.lang.management.ManagementFactory;
import java.lang.reflect.Array;
import java.lang.reflect.Field;
import java.lang.reflect.Modifier;
import java.util.ArrayDeque;
import java.util.Collections;
import java.util.Deque;
import java.util.IdentityHashMap;
import java.util.Set;

/** What a run needs of the one room for all its calls: what an object is made of, and what its calls make. */
final class RoomTest {
    private static final int CALLS = 512;

    private static final Set<Object> SEEN = Collections.newSetFromMap(new IdentityHashMap<>());
    private static final Deque<Object> OPEN = new ArrayDeque<>();
    private static int places;

    private RoomTest() {
    }

    public static void main(String[] args) throws IllegalAccessException {
        ModemLink x = busy();
        count(x);
        System.out.println(SEEN.size() + " objects and arrays, " + places + " fields and elements");
        Check.yes("an object has at most 600 objects and arrays", SEEN.size() <= 600);
        Check.yes("an object has at most 30000 fields and elements", places <= 30000);
        calls(x);
        Check.finish();
    }

    private static ModemLink busy() {
        ModemLink x = Lines.online("line 9; rates 8 1, 20 2, 40 3, 60 4, 80 5; window 7; patience 2; noise 0 1 2 5 9;");
        for (int k = 0; k < 12; k++) {
            Check.send(x, k % 2, Lines.different(k * 7, 90));
            x.pass(9);
        }
        x.saveSnapshot();
        x.format();
        return x;
    }

    private static void count(Object whole) throws IllegalAccessException {
        open(whole);
        while (!OPEN.isEmpty()) {
            Object next = OPEN.pop();
            if (next instanceof Object[] row) {
                places += row.length;
                for (Object part : row) {
                    open(part);
                }
            } else if (next.getClass().isArray()) {
                places += Array.getLength(next);
            } else if (next instanceof StringBuilder text) {
                places += text.capacity();
            } else {
                countFields(next);
            }
        }
    }

    private static void countFields(Object whole) throws IllegalAccessException {
        for (Field field : whole.getClass().getDeclaredFields()) {
            if (Modifier.isStatic(field.getModifiers())) {
                continue;
            }
            places++;
            if (!field.getType().isPrimitive()) {
                field.setAccessible(true);
                open(field.get(whole));
            }
        }
    }

    private static void open(Object part) {
        if (part != null && SEEN.add(part)) {
            OPEN.push(part);
        }
    }

    /** The least object has 16 bytes, so one made in each round would be seen; the rest is the machine's own. */
    private static void calls(ModemLink x) {
        ThreadMXBean threads = (ThreadMXBean) ManagementFactory.getThreadMXBean();
        long thread = Thread.currentThread().getId();
        threads.getThreadAllocatedBytes(thread);
        long before = threads.getThreadAllocatedBytes(thread);
        for (int k = 0; k < CALLS; k++) {
            x.leastQuality();
            x.ticksToFinish();
            x.receivedBehind(1, 400);
            x.feed(0x6d616e79, 0x206e6f74, 0x20287469, 0x636b203c, 0x20392020);
            x.query(20);
            x.feed(0x6d616e79, 0x206e6f74, 0x206b696e, 0x64203d20, 0x37202020);
            x.query(17);
            x.feed(0x61626320, 0x61626320, 0x61626320, 0x61626320, 0x61626320);
            x.send(k % 2, 20);
            x.pass(3);
            x.undo();
            x.saveSnapshot();
            x.restoreSnapshot();
            x.format();
        }
        long made = threads.getThreadAllocatedBytes(thread) - before;
        System.out.println(made + " bytes made by " + CALLS + " times the dearest calls");
        Check.yes("not one object is made in each round of calls", made < 16L * CALLS);
    }
}
