import java.lang.management.ManagementFactory;
import java.lang.reflect.Array;
import java.lang.reflect.Field;
import java.lang.reflect.Modifier;
import java.util.ArrayDeque;
import java.util.Collections;
import java.util.IdentityHashMap;
import java.util.Set;

/** One run, of at most 512 calls, has room for some 600,000 objects and 7.3 million elements. */
public final class RoomTest {
    private static final int CALLS = 512;
    private static final int OBJECTS = 600_000;
    private static final int ELEMENTS = 7_300_000;
    /** No object takes less. */
    private static final int BYTES_OF_AN_OBJECT = 16;
    private static final Check check = new Check();
    private static long objects;
    private static long elements;

    public static void main(String[] args) throws Exception {
        check.part("room");
        CaseTree x = new CaseTree();
        count(x);
        System.out.println("a new object holds " + objects + " objects and " + elements + " elements");
        fill(x);
        use(x);
        count(x);
        System.out.println("a full one holds " + objects + " objects and " + elements + " elements");
        check.holds("an object leaves most of the room", objects < OBJECTS / 10 && elements < ELEMENTS / 10);
        roomOfARun();
        check.end();
    }

    /** 28 calls. */
    private static void fill(CaseTree x) {
        x.attribute(0);
        x.attribute(4);
        x.attribute(3);
        x.attribute(2);
        for (int i = 0; i < 24; i++) {
            x.add(i * i % 3, i * 37 % 100, i % 5 == 4 ? -1 : i % 4, i % 7 == 6 ? -1 : i % 3, i / 5 % 2);
        }
    }

    /** 8 calls, the dearest there are among them. */
    private static long use(CaseTree x) {
        long sum = x.grow(1) + x.prune(100) + x.wrong() + x.classify(-1, -1, -1, -1);
        return sum + x.gain(0, 1) + x.split(0, 1) + x.cut(0, 2) + x.child(0, 0);
    }

    private static void roomOfARun() {
        if (!(ManagementFactory.getThreadMXBean() instanceof com.sun.management.ThreadMXBean beans)) {
            return;
        }
        long id = Thread.currentThread().getId();
        long sum = beans.getThreadAllocatedBytes(id);
        long before = beans.getThreadAllocatedBytes(id);
        CaseTree x = new CaseTree();
        fill(x);
        for (int calls = 28; calls + 8 <= CALLS; calls += 8) {
            sum += use(x);
        }
        long bytes = beans.getThreadAllocatedBytes(id) - before;
        System.out.println("a run of 512 calls makes " + bytes + " bytes" + (sum == 0 ? "!" : ""));
        check.holds("the objects that a run makes have room", bytes / BYTES_OF_AN_OBJECT < OBJECTS);
    }

    private static void count(Object start) throws Exception {
        objects = 0;
        elements = 0;
        Set<Object> seen = Collections.newSetFromMap(new IdentityHashMap<>());
        ArrayDeque<Object> open = new ArrayDeque<>();
        visit(start, seen, open);
        while (!open.isEmpty()) {
            Object one = open.remove();
            objects++;
            if (one.getClass().isArray()) {
                countArray(one, seen, open);
            } else {
                countFields(one, seen, open);
            }
        }
    }

    private static void countArray(Object one, Set<Object> seen, ArrayDeque<Object> open) {
        elements += Array.getLength(one);
        if (!one.getClass().getComponentType().isPrimitive()) {
            for (int i = 0; i < Array.getLength(one); i++) {
                visit(Array.get(one, i), seen, open);
            }
        }
    }

    private static void countFields(Object one, Set<Object> seen, ArrayDeque<Object> open) throws Exception {
        for (Field field : one.getClass().getDeclaredFields()) {
            if (Modifier.isStatic(field.getModifiers())) {
                continue;
            }
            elements++;
            if (!field.getType().isPrimitive() && field.trySetAccessible()) {
                visit(field.get(one), seen, open);
            }
        }
    }

    private static void visit(Object one, Set<Object> seen, ArrayDeque<Object> open) {
        if (one != null && seen.add(one)) {
            open.add(one);
        }
    }
}
