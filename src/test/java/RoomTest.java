import java.lang.management.ManagementFactory;
import java.lang.reflect.Array;
import java.lang.reflect.Field;
import java.lang.reflect.Modifier;
import java.util.ArrayDeque;
import java.util.Collections;
import java.util.IdentityHashMap;
import java.util.Set;

/** One run has room for some 600,000 objects and 7.3 million fields and elements. */
public final class RoomTest {
    private static final int CALLS = 512;
    private static final int OBJECTS = 600_000;
    private static final int ELEMENTS = 7_300_000;
    private static final Check check = new Check();
    private static long objects;
    private static long elements;

    public static void main(String[] args) throws Exception {
        check.part("room");
        CaseTree x = new CaseTree();
        count(x);
        long atFirst = objects;
        System.out.println("an object holds " + objects + " objects and " + elements + " elements");
        check.holds("512 new objects have room", CALLS * objects < OBJECTS / 2 && CALLS * elements < ELEMENTS / 2);
        fill(x);
        count(x);
        check.due("objects held after the calls", objects, atFirst);
        callsMakeNothing(x);
        check.end();
    }

    private static void fill(CaseTree x) {
        x.attribute(0);
        x.attribute(4);
        x.attribute(3);
        x.attribute(2);
        for (int i = 0; i < 24; i++) {
            x.add(i * i % 3, i * 37 % 100, i % 5 == 4 ? -1 : i % 4, i % 7 == 6 ? -1 : i % 3, i / 5 % 2);
        }
        use(x);
    }

    private static long use(CaseTree x) {
        long sum = x.grow(1) + x.prune(100) + x.wrong() + x.classify(-1, -1, -1, -1) + x.share(0);
        sum += x.gain(0, 1) + x.split(1, 1) + x.cut(0, 2) + x.log(77) + x.nodes() + x.cases();
        return sum + x.tested(0) + x.threshold(0) + x.child(0, 0) + x.classOf(0) + x.weight(0, 0) + x.part(0, 0);
    }

    private static void callsMakeNothing(CaseTree x) {
        if (!(ManagementFactory.getThreadMXBean() instanceof com.sun.management.ThreadMXBean beans)) {
            return;
        }
        long id = Thread.currentThread().getId();
        long sum = beans.getThreadAllocatedBytes(id) + use(x);
        long before = beans.getThreadAllocatedBytes(id);
        for (int i = 0; i < 2000; i++) {
            sum += use(x);
        }
        long bytes = beans.getThreadAllocatedBytes(id) - before;
        check.holds("34,000 calls made " + bytes + " bytes" + (sum == 0 ? "!" : ""), bytes < 10_000);
    }

    private static void count(Object start) throws Exception {
        objects = 0;
        elements = 0;
        Set<Object> seen = Collections.newSetFromMap(new IdentityHashMap<>());
        ArrayDeque<Object> open = new ArrayDeque<>();
        open.add(start);
        seen.add(start);
        while (!open.isEmpty()) {
            Object one = open.remove();
            objects++;
            if (one.getClass().isArray()) {
                elements += Array.getLength(one);
                for (int i = 0; i < Array.getLength(one) && !one.getClass().getComponentType().isPrimitive(); i++) {
                    visit(Array.get(one, i), seen, open);
                }
                continue;
            }
            for (Field field : one.getClass().getDeclaredFields()) {
                if (!Modifier.isStatic(field.getModifiers())) {
                    elements++;
                    field.setAccessible(true);
                    if (!field.getType().isPrimitive()) {
                        visit(field.get(one), seen, open);
                    }
                }
            }
        }
    }

    private static void visit(Object one, Set<Object> seen, ArrayDeque<Object> open) {
        if (one != null && seen.add(one)) {
            open.add(one);
        }
    }
}
