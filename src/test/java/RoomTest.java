import java.lang.management.ManagementFactory;
import java.lang.reflect.Array;
import java.lang.reflect.Field;
import java.lang.reflect.Modifier;
import java.util.ArrayDeque;
import java.util.IdentityHashMap;
import java.util.Map;

/** An object takes little of the room that all calls share, and its calls take none. */
public final class RoomTest {
    private static final int OBJECTS_AT_MOST = 200;
    private static final int ELEMENTS_AT_MOST = 1500;
    // The measuring itself may make a little; a single object a call would be 512 times 16.
    private static final long BYTES_AT_MOST = 4096;

    private static int wrong = 0;
    private static long sum = 0;

    private static void atMost(String what, long got, long most) {
        System.out.println(what + ": " + got);
        if (got > most) {
            wrong++;
            System.out.println("  which is more than " + most);
        }
    }

    private static void weigh(Object whole) throws IllegalAccessException {
        Map<Object, Boolean> seen = new IdentityHashMap<>();
        ArrayDeque<Object> open = new ArrayDeque<>();
        open.add(whole);
        seen.put(whole, true);
        long elements = 0;
        while (!open.isEmpty()) {
            Object next = open.remove();
            if (next.getClass().isArray()) {
                int length = Array.getLength(next);
                elements += length;
                for (int i = 0; i < length && !next.getClass().getComponentType().isPrimitive(); i++) {
                    see(Array.get(next, i), seen, open);
                }
                continue;
            }
            for (Field f : next.getClass().getDeclaredFields()) {
                if (!Modifier.isStatic(f.getModifiers())) {
                    elements++;
                    f.setAccessible(true);
                    if (!f.getType().isPrimitive()) {
                        see(f.get(next), seen, open);
                    }
                }
            }
        }
        atMost("objects and arrays", seen.size(), OBJECTS_AT_MOST);
        atMost("fields and elements", elements, ELEMENTS_AT_MOST);
    }

    private static void see(Object part, Map<Object, Boolean> seen, ArrayDeque<Object> open) {
        if (part != null && seen.put(part, true) == null) {
            open.add(part);
        }
    }

    private static void useAll(RedBalloons x) {
        String text = "CW1W4W0W2Ba00Bb11Bg20Bl31Bm02Hc10Hm01Hn32Ht03";
        x.wipe();
        for (int i = 0; i < text.length(); i++) {
            sum += x.write(text.charAt(i));
        }
        sum += x.fault() + x.city();
        for (int i = 0; i < 15; i++) {
            sum += x.best(i % 5) + x.let(i % 5) + x.hour() + x.free(i % 5) + x.right(i % 5, (i + 1) % 5);
            sum += x.balloon(i % 5, i % 8) + x.hedge(i % 4, i % 4) + x.later(i % 5, i, i % 2) + x.comes(i % 5);
            sum += x.most(i % 2) + x.judge(4, 101000200400L) + x.find(i, i % 9) + x.began(i % 4) + x.share(i % 4, true);
            sum += x.rests(i % 5, (i + 1) % 5, i % 2) + x.fails(i % 5, i % 4, 6, 5, false) + x.seed(i) + x.years(30);
            sum += x.keep(i % 2) + x.count(i % 14) + x.undo();
        }
        sum += x.again(1) + x.lose();
    }

    public static void main(String[] args) throws IllegalAccessException {
        weigh(new RedBalloons());
        com.sun.management.ThreadMXBean meter = (com.sun.management.ThreadMXBean) ManagementFactory.getThreadMXBean();
        RedBalloons x = new RedBalloons();
        useAll(x);
        long before = meter.getCurrentThreadAllocatedBytes();
        useAll(x);
        atMost("bytes made by calls", meter.getCurrentThreadAllocatedBytes() - before, BYTES_AT_MOST);
        System.out.println("answers together: " + sum);
        if (wrong != 0) {
            System.exit(1);
        }
    }
}
