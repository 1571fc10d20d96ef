import java.lang.management.ManagementFactory;
import java.lang.reflect.Array;
import java.lang.reflect.Field;
import java.lang.reflect.Modifier;
import java.util.ArrayDeque;
import java.util.Collections;
import java.util.Deque;
import java.util.IdentityHashMap;
import java.util.Set;

/**
 * The one room that all calls of a run live in: the dearest call, which is the making of an object, fits into it as
 * often as a run has calls, and no other call makes anything.
 */
public final class RoomTest {
    private static final int CALLS = 512;
    private static final int OBJECTS_OF_ROOM = 600_000;
    private static final int ELEMENTS_OF_ROOM = 7_300_000;

    private static int wrong = 0;
    private static long objects = 0;
    private static long elements = 0;

    private static void check(boolean holds, String what) {
        if (!holds) {
            wrong++;
            System.out.println("room: " + what);
        }
    }

    private static void countAll(Object root) throws Exception {
        Set<Object> seen = Collections.newSetFromMap(new IdentityHashMap<>());
        Deque<Object> open = new ArrayDeque<>();
        open.add(root);
        while (!open.isEmpty()) {
            Object o = open.remove();
            if (!seen.add(o)) continue;
            objects++;
            if (o.getClass().isArray()) {
                elements += Array.getLength(o);
                check(o.getClass().getComponentType().isPrimitive(), "an array of objects, which is not counted here");
            } else {
                countFields(o, open);
            }
        }
    }

    private static void countFields(Object o, Deque<Object> open) throws Exception {
        for (Field f : o.getClass().getDeclaredFields()) {
            if (Modifier.isStatic(f.getModifiers())) continue;
            elements++;
            if (f.getType().isPrimitive()) continue;
            f.setAccessible(true);
            if (f.get(o) != null) open.add(f.get(o));
        }
    }

    private static HallHeard fullHall() {
        HallHeard x = new HallHeard();
        for (int k = 1; k < 8; k++) x.stuff(12 * k, 90 * k);
        x.wall(0, 0, 1000, 0, 1);
        x.wall(1000, 0, 1000, 1000, 2);
        x.wall(1000, 1000, 0, 1000, 3);
        x.wall(0, 1000, 0, 0, 4);
        for (int k = 0; k < 12; k++) x.wall(30 + 80 * k, 40, 35 + 80 * k, 40, k % 8);
        for (int k = 0; k < 4; k++) x.source(100 + 200 * k, 300 + 77 * k, 1000);
        for (int k = 0; k < 8; k++) x.seat(130 + 97 * k, 880 - 81 * k);
        x.rule(0, 3);
        return x;
    }

    /** Every call of the face, right and refused. */
    private static long callAll(HallHeard x, int k) {
        long sum = x.stuff(1, 1) + x.stuff(-1, 0) + x.wall(0, 0, 9, 0, 0) + x.wall(0, 0, 9, 9, 0) + x.cover(k % 16, k % 8);
        sum += x.back() + x.wall(7, 7, 7, 9, 0) + x.source(0, 0, 1) + x.seat(0, 0) + x.move(k % 8, 1, 10 * k, 5 + k);
        sum += x.rule(0, 3) + x.rule(1, 1 + k % 9) + x.told(k % 16, k % 6) + x.count(k % 7);
        sum += x.paths(0, k % 8, -1) + x.path(0, k % 8, k, k % 7) + x.sees(k % 4, k % 8, k % 16, 3, 1);
        sum += x.heard(k % 4, k % 8, k % 5) + x.at(k % 4, k % 8, k) + x.left(1000000, 100) + x.worst(k % 5);
        return sum + x.best(k % 4, k % 8, 15, 1000000, k % 3) + x.best(4, 0, 0, 0, 0);
    }

    private static void callsMakeNothing() {
        com.sun.management.ThreadMXBean bean = (com.sun.management.ThreadMXBean) ManagementFactory.getThreadMXBean();
        HallHeard x = fullHall();
        long sum = callAll(x, 0);
        bean.getCurrentThreadAllocatedBytes();
        long before = bean.getCurrentThreadAllocatedBytes();
        for (int k = 0; k < 20; k++) sum += callAll(x, k);
        long made = bean.getCurrentThreadAllocatedBytes() - before;
        check(made == 0, "the calls made " + made + " bytes (" + sum + ")");
    }

    public static void main(String[] args) throws Exception {
        HallHeard x = fullHall();
        for (int k = 0; k < 20; k++) callAll(x, k);
        countAll(x);
        check(objects * CALLS <= OBJECTS_OF_ROOM, objects + " objects and arrays");
        check(elements * CALLS <= ELEMENTS_OF_ROOM, elements + " fields and elements");
        callsMakeNothing();
        System.out.println("an object of " + objects + " objects and arrays, " + elements + " fields and elements");
        if (wrong != 0) System.exit(1);
    }
}
