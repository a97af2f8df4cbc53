import java.lang.management.ManagementFactory;
import java.lang.reflect.Array;
import java.lang.reflect.Field;
import java.lang.reflect.Modifier;
import java.util.ArrayDeque;
import java.util.Collections;
import java.util.Deque;
import java.util.IdentityHashMap;
import java.util.Set;

/** How much room an object takes when it is made, and that no call takes any more. */
public final class RoomTest {
    private static final Check CHECK = new Check();
    private static final int ROUNDS = 400;
    private static final com.sun.management.ThreadMXBean THREADS =
        (com.sun.management.ThreadMXBean) ManagementFactory.getThreadMXBean();
    private static final String DEAREST =
        "t4,1;t4,1;t4,0;t4,0;t4,0;p00000;p10000;p11000;p11100;p11110;p11111;p21111;p22111;p22211;l2;";

    public static void main(String[] args) throws IllegalAccessException {
        made();
        calls();
        CHECK.end();
    }

    private static void made() throws IllegalAccessException {
        Set<Object> seen = Collections.newSetFromMap(new IdentityHashMap<>());
        Deque<Object> open = new ArrayDeque<>();
        open.push(new UnlikeGate());
        int cells = 0;
        while (!open.isEmpty()) {
            Object object = open.pop();
            if (!seen.add(object)) {
                continue;
            }
            if (object.getClass().isArray()) {
                cells += Array.getLength(object);
                continue;
            }
            for (Field field : object.getClass().getDeclaredFields()) {
                if (!Modifier.isStatic(field.getModifiers())) {
                    cells++;
                    field.setAccessible(true);
                    if (!field.getType().isPrimitive()) {
                        open.push(field.get(object));
                    }
                }
            }
        }
        System.out.println("a new object: " + seen.size() + " objects and arrays, " + cells + " fields and elements");
        CHECK.holds("objects", seen.size() <= 40);
        CHECK.holds("fields and elements", cells <= 7000);
    }

    private static long taken() {
        return THREADS.getThreadAllocatedBytes(Thread.currentThread().getId());
    }

    private static void calls() {
        UnlikeGate gate = Check.laid(DEAREST);
        // Once ahead, so that classes are loaded when it counts.
        callAll(gate, 0);
        taken();
        long before = taken();
        for (int k = 0; k < ROUNDS; k++) {
            callAll(gate, k);
        }
        // Interpreted it is just 0; compiled, the machine now and then adds some bytes of its own,
        // but far fewer than the smallest object in each round would take.
        CHECK.holds("calls take no room", taken() - before < 8 * ROUNDS);
    }

    private static void callAll(UnlikeGate gate, int k) {
        int i = k % 9;
        gate.write(3, 0x6C323B);
        gate.fault();
        gate.lay();
        for (int n = 0; n < 16; n++) {
            gate.add(n % 9);
        }
        gate.person(i, -1);
        gate.differ(i, 8, true);
        gate.may(i);
        gate.goIn(i);
        gate.goOut(i);
        gate.last();
        gate.keep();
        gate.undo();
        gate.back();
        gate.add(i);
        gate.judge();
        gate.longest(511, i);
        gate.proof();
        gate.between(i, 0, 12);
        gate.nearest(i, 0);
        gate.steps(i, 8, 1);
        gate.lent(0);
        gate.mustSee();
        gate.crowd(k, 60, 0);
        gate.count(k);
        gate.noRow();
        if (k == ROUNDS - 1) {
            gate.wipe();
        }
    }
}
