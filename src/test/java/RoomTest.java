import java.lang.management.ManagementFactory;
import java.lang.reflect.Array;
import java.lang.reflect.Field;
import java.lang.reflect.Modifier;
import java.util.Collections;
import java.util.IdentityHashMap;
import java.util.Set;

/** All calls of a run live in one room: an object is small, and its calls make nothing (but message: a message). */
final class RoomTest {
    private static final Check CHECK = new Check("RoomTest");
    /** What a measurement itself may make. */
    private static final int SLACK = 4096;

    private long elements = 0;
    private final Set<Object> seen = Collections.newSetFromMap(new IdentityHashMap<>());

    public static void main(String[] args) throws IllegalAccessException {
        GrantNet net = full();
        RoomTest room = new RoomTest();
        room.count(net);
        System.out.println("an object with 48 messages: " + room.seen.size() + " objects and arrays, "
            + room.elements + " fields and elements");
        CHECK.due("few objects", room.seen.size() <= 500, true);
        CHECK.due("few elements", room.elements <= 6000, true);
        callsMakeNothing(net);
        CHECK.end();
    }

    private static GrantNet full() {
        GrantNet net = new GrantNet();
        for (int m = 0; m < 48; m++) {
            net.message(1 + m % 7, 0, 60, m % 2);
        }
        return net;
    }

    private static void callsMakeNothing(GrantNet net) {
        askAll(net);
        net.slot(1);
        long before = madeSoFar();
        for (int i = 0; i < 10; i++) {
            net.slot(200);
            askAll(net);
        }
        long made = madeSoFar() - before;
        CHECK.due("bytes made by 2000 slots, but for " + SLACK, made <= SLACK, true);
    }

    private static long madeSoFar() {
        com.sun.management.ThreadMXBean bean = (com.sun.management.ThreadMXBean) ManagementFactory.getThreadMXBean();
        return bean.getThreadAllocatedBytes(Thread.currentThread().getId());
    }

    private static void askAll(GrantNet net) {
        net.lose(3, 5);
        net.spine(1, true);
        net.sent(0, 3);
        net.received(0, 2);
        net.in(0, 3);
        net.finished(0, 0);
        net.chosen(0, 0);
        net.host(0, 0);
        net.queue(8, 0);
        net.packet(0, 0);
        net.total(2);
    }

    private void count(Object o) throws IllegalAccessException {
        if (o == null || !seen.add(o)) {
            return;
        }
        if (o.getClass().isArray()) {
            elements += Array.getLength(o);
            for (int i = 0; o instanceof Object[] && i < Array.getLength(o); i++) {
                count(Array.get(o, i));
            }
            return;
        }
        for (Field f : o.getClass().getDeclaredFields()) {
            if (!Modifier.isStatic(f.getModifiers())) {
                elements++;
                if (!f.getType().isPrimitive()) {
                    f.setAccessible(true);
                    count(f.get(o));
                }
            }
        }
    }
}
