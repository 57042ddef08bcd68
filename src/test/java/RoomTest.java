import com.sun.management.ThreadMXBean;
import java.lang.management.ManagementFactory;
import java.lang.reflect.Array;
import java.lang.reflect.Field;
import java.lang.reflect.Modifier;
import java.util.ArrayDeque;
import java.util.Collections;
import java.util.Deque;
import java.util.IdentityHashMap;
import java.util.Set;

/** The room that an object takes: all of it comes with the constructor, and calls that answer make nothing. */
public final class RoomTest {
    private static final int OBJECTS_MOST = 100;
    private static final int ELEMENTS_MOST = 12000;
    private static final ThreadMXBean ROOM = (ThreadMXBean) ManagementFactory.getThreadMXBean();

    public static void main(String[] args) throws IllegalAccessException {
        SlipHeaps x = new SlipHeaps();
        int[] before = counts(x);
        Due.is("objects, " + before[0], () -> before[0] <= OBJECTS_MOST, 1);
        Due.is("fields and elements, " + before[1], () -> before[1] <= ELEMENTS_MOST, 1);
        bytesOf(x);
        int[] after = counts(x);
        Due.is("objects behind the calls", () -> after[0], before[0]);
        Due.is("fields and elements behind the calls", () -> after[1], before[1]);
        SlipHeaps y = new SlipHeaps();
        Due.is("bytes that calls took", () -> bytesOf(y), 0);
        Due.close("RoomTest");
    }

    private static boolean isOwn(Class<?> type) {
        return type.getName().startsWith("SlipHeaps");
    }

    /** How many objects and arrays hang on this one, and how many fields and elements they have. */
    private static int[] counts(Object root) throws IllegalAccessException {
        Set<Object> seen = Collections.newSetFromMap(new IdentityHashMap<>());
        Deque<Object> next = new ArrayDeque<>();
        next.add(root);
        int cells = 0;
        while (!next.isEmpty()) {
            Object one = next.remove();
            if (!seen.add(one)) {
                continue;
            }
            if (one.getClass().isArray()) {
                cells += Array.getLength(one);
                continue;
            }
            Due.is(one.getClass() + " is a class of its own", () -> isOwn(one.getClass()), 1);
            for (Field field : one.getClass().getDeclaredFields()) {
                if (!Modifier.isStatic(field.getModifiers())) {
                    cells++;
                    field.setAccessible(true);
                    if (!field.getType().isPrimitive()) {
                        next.add(field.get(one));
                    }
                }
            }
        }
        return new int[] {seen.size(), cells};
    }

    private static long bytesOf(SlipHeaps x) {
        long before = ROOM.getCurrentThreadAllocatedBytes();
        fill(x);
        ask(x);
        change(x);
        return ROOM.getCurrentThreadAllocatedBytes() - before;
    }

    private static void fill(SlipHeaps x) {
        for (int i = 0; i < 31; i++) {
            x.entry(i % 8, i % 16, i % 5, i * 7 % 200, i % 4 - 1);
        }
        for (int i = 0; i < 9; i++) {
            x.like(i, i + 1, 10 * i);
            x.weigh(i, i + 1, i == 4 ? SlipHeaps.VOID : 7);
            x.weigh(i + 10, i + 11, 9);
            x.weigh(i, i + 2, -8);
            x.fix(i, i + 20, i < 2);
        }
        // "look if trade=1;", and the same with its beginning behind it, which is cut short.
        x.feed(0x6c6f6f6b, 0x20696620, 0x74726164, 0x653d313b, 0x20202020);
        x.rules(20);
        x.feed(0x6c6f6f6b, 0x20696620, 0x74726164, 0x653d313b, 0x6c6f6f6b);
        x.rules(20);
        x.fault();
        x.law(0, 5);
        x.law(1, 0);
        x.law(2, 150);
    }

    private static void ask(SlipHeaps x) {
        for (int i = 0; i < 4; i++) {
            x.of(i, 5 + i % 3);
            x.weight(i, i + 1);
            x.why(i, i + 1);
            x.cost();
            x.barred();
            x.better(i);
            x.bound();
            x.ring(i, i);
            x.rings();
            x.told(i, i + 1, i + 2, 1);
            x.best(10);
            x.many(10 + i);
            x.first(10 + i);
            x.all();
            x.always(10, 11 + i);
            x.edge(10, 11 + i);
            x.holds(10, 11 + i, 5);
            x.asked(10 + i);
            x.near(10, 1000 * i);
            x.nearest(10 + i, 1000);
            x.without(i);
            x.stands(i);
            x.count(3 * i);
        }
    }

    private static void change(SlipHeaps x) {
        for (int i = 0; i < 7; i++) {
            x.mark();
            x.put(i, i + 9);
            x.join(i, i + 3);
            x.swap(i, i + 11);
            x.alone(i);
            x.grow(20);
            x.forget(i, i + 1);
            x.loose(i, i + 20);
            x.take();
            x.better(0);
            x.grow(20);
        }
        for (int i = 0; i < 7; i++) {
            x.back();
        }
    }
}
