import java.lang.management.ManagementFactory;
import java.lang.reflect.Array;
import java.lang.reflect.Field;
import java.lang.reflect.Modifier;
import java.util.ArrayDeque;
import java.util.Collections;
import java.util.IdentityHashMap;
import java.util.Set;

/** All memory is made at first, and is small beside the room of a run (600,000 objects, 7.3 million elements). */
public final class RoomTest {
    private static final Check CHECK = new Check("RoomTest");
    private static int objects, elements;

    public static void main(String[] args) throws ReflectiveOperationException {
        StripedStore x = new StripedStore(6, 3, 16);
        measure(x);
        System.out.println("RoomTest: " + objects + " objects, " + elements + " fields and elements");
        CHECK.due("few objects", objects < 1000, true);
        CHECK.due("few elements", elements < 450000, true);
        int before = elements;
        useAll(x, 1);
        measure(x);
        CHECK.due("as many elements after calls", elements, before);
        noCallMakesObjects();
        CHECK.end();
    }

    private static void measure(Object root) throws ReflectiveOperationException {
        objects = 0;
        elements = 0;
        Set<Object> seen = Collections.newSetFromMap(new IdentityHashMap<>());
        ArrayDeque<Object> open = new ArrayDeque<>();
        open.add(root);
        while (!open.isEmpty()) {
            Object o = open.poll();
            if (!seen.add(o)) {
                continue;
            }
            objects++;
            if (o.getClass().isArray()) {
                elements += Array.getLength(o);
                for (int i = 0; !o.getClass().getComponentType().isPrimitive() && i < Array.getLength(o); i++) {
                    open.add(Array.get(o, i));
                }
            } else {
                for (Field f : o.getClass().getDeclaredFields()) {
                    if (!Modifier.isStatic(f.getModifiers())) {
                        elements++;
                        f.setAccessible(true);
                        if (!f.getType().isPrimitive() && f.get(o) != null) {
                            open.add(f.get(o));
                        }
                    }
                }
            }
        }
    }

    private static int useAll(StripedStore x, int seed) {
        int sum = 0;
        for (int i = 0; i < 12; i++) {
            sum += x.feed(i % 5 << 24, seed, i, 0, 0) + x.end(3) + x.name(i % 3 == 0 ? 1 : 0);
            for (int f = 0; f < 30; f++) {
                sum += x.feed(f, i, seed, -f, ~i);
            }
            sum += x.begin((i + seed) % 10, i * 600, i * 100);
            x.deliver(i);
            x.twice(i);
            x.lose(i);
            sum += x.stir(100, i) + x.tick(2) + x.map(seed * i | 7);
            sum += (x.crash(i % 6, seed, i) ? 1 : 0) + (x.replace(i % 6) ? 1 : 0) + (x.restart((i + 1) % 6) ? 1 : 0);
        }
        sum += x.settle() + x.audit() + x.answer(3) + x.told(4, 5);
        for (int k = 0; k < 11; k++) {
            sum += x.count(k) + x.file(k, 3) + x.where(k, 1, 1) + x.onDisk(k, 1, 1, 1) + x.holds(k);
        }
        return sum;
    }

    private static void noCallMakesObjects() {
        com.sun.management.ThreadMXBean threads =
            (com.sun.management.ThreadMXBean) ManagementFactory.getThreadMXBean();
        if (!threads.isThreadAllocatedMemorySupported() || !threads.isThreadAllocatedMemoryEnabled()) {
            System.out.println("RoomTest: this machine does not tell what calls make");
            return;
        }
        StripedStore x = new StripedStore(6, 3, 16);
        long id = Thread.currentThread().getId();
        int sum = useAll(x, 2);
        threads.getThreadAllocatedBytes(id);
        long before = threads.getThreadAllocatedBytes(id);
        for (int round = 3; round < 40; round++) {
            sum += useAll(x, round);
        }
        long made = threads.getThreadAllocatedBytes(id) - before;
        CHECK.due("bytes that calls made (" + sum + ")", made < 2000, true);
    }
}
