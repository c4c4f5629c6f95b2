import java.lang.management.ManagementFactory;
import java.lang.reflect.Array;
import java.lang.reflect.Field;
import java.lang.reflect.Modifier;
import java.util.ArrayDeque;
import java.util.Collections;
import java.util.Deque;
import java.util.IdentityHashMap;
import java.util.Set;

/**
 * What a run makes (rule 12 of LANGUAGE.md): the constructor makes all, little enough for 512 new
 * objects in one room, and no call makes anything, whether it is answered or refused.
 */
public final class RoomTest {
    private static final int CALLS = 512, ROOM_OBJECTS = 600000, ROOM_ELEMENTS = 7300000;
    private static final String[] NAMES = {"voice", "note", "rest", "dot", "ligature", "proportion", "back", "told",
        "symbol", "readings", "stuck", "strained", "form", "value", "pick", "time", "at", "together", "meet", "canon",
        "follower", "write", "written", "count"};
    private static final com.sun.management.ThreadMXBean THREADS =
        (com.sun.management.ThreadMXBean) ManagementFactory.getThreadMXBean();
    private static int wrong = 0;
    private static long sum = 0;

    private static void must(boolean holds, String what) {
        if (!holds) {
            wrong++;
            System.out.println("not so: " + what);
        }
    }

    /** Objects and arrays that can be reached, and their fields and elements. */
    private static long[] countAll(Object root) throws IllegalAccessException {
        Set<Object> seen = Collections.newSetFromMap(new IdentityHashMap<>());
        Deque<Object> left = new ArrayDeque<>();
        seen.add(root);
        left.add(root);
        long elements = 0;
        while (!left.isEmpty()) {
            Object one = left.remove();
            if (one.getClass().isArray()) {
                elements += Array.getLength(one);
                for (int i = 0; !one.getClass().getComponentType().isPrimitive() && i < Array.getLength(one); i++) {
                    visit(Array.get(one, i), seen, left);
                }
                continue;
            }
            for (Field f : one.getClass().getDeclaredFields()) {
                if (!Modifier.isStatic(f.getModifiers())) {
                    elements++;
                    f.setAccessible(true);
                    visit(f.getType().isPrimitive() ? null : f.get(one), seen, left);
                }
            }
        }
        return new long[] {seen.size(), elements};
    }

    private static void visit(Object one, Set<Object> seen, Deque<Object> left) {
        if (one != null && seen.add(one)) {
            left.add(one);
        }
    }

    private static long call(MensuralRows x, int which, int v, int n) {
        switch (which) {
            case 0: return x.voice(n % 17);
            case 1: return x.note(v, 2 + n % 4, n % 40, n % 11 == 0);
            case 2: return x.rest(v, n % 8);
            case 3: return x.dot(v);
            case 4: return x.ligature(v, n % 16, 2 + n % 2, 0x00020304L + n % 3);
            case 5: return x.proportion(v, 1 + n % 3, 1 + n % 2);
            case 6: return x.back(v);
            case 7: return x.told(v, n % 8);
            case 8: return x.symbol(v, n % 24, n % 5);
            case 9: return x.readings(v);
            case 10: return x.stuck(v);
            case 11: return x.strained(v, n % 3);
            case 12: return x.form(v, n % 3, n % 20);
            case 13: return x.value(v, n % 3, n % 24);
            case 14: return x.pick(v, n % 3);
            case 15: return x.time(v, n % 24, n % 2);
            case 16: return x.at(v, n, 1 + n % 3);
            case 17: return x.together();
            case 18: return x.meet(v, n % 7, n % 2);
            case 19: return x.canon(v, n % 9, n, n % 41);
            case 20: return x.follower(n % 7, n % 24, n % 6);
            case 21: return x.write(n % 17, 1 + n % 3, 12 * (1 + n % 9), 24, 36);
            case 22: return x.written(n % 7);
            default: return x.count(n % 4);
        }
    }

    /** Rows with a few readings, with none, with many, and one that is empty. */
    private static MensuralRows filled() {
        MensuralRows x = new MensuralRows();
        for (int v = 0; v < 5; v++) {
            x.voice(v == 2 ? 8 : 4);
        }
        for (int i = 0; i < 8; i++) {
            x.note(0, i % 3 == 0 ? 2 : 3, i, false);
            x.note(1, 3, i, false);
            x.note(3, 2 + i % 2, i, true);
        }
        for (int i = 0; i < 12; i++) {
            x.note(2, 3, i, false);
            x.dot(2);
        }
        return x;
    }

    /** The calls of one sort, in turn over all voices and one that is none; answers the bytes they made. */
    private static long bytesOf(MensuralRows x, int which) {
        long before = THREADS.getCurrentThreadAllocatedBytes();
        for (int n = 0; n < 60; n++) {
            sum += call(x, which, n % 7, n);
        }
        return THREADS.getCurrentThreadAllocatedBytes() - before;
    }

    /** Calls of all sorts one behind the other, so that rows change between answers. */
    private static long bytesOfMixed(MensuralRows x) {
        long before = THREADS.getCurrentThreadAllocatedBytes();
        for (int n = 0; n < CALLS; n++) {
            sum += call(x, n * 7 % NAMES.length, n / 3 % 7, n);
        }
        return THREADS.getCurrentThreadAllocatedBytes() - before;
    }

    public static void main(String[] args) throws IllegalAccessException {
        MensuralRows rows = filled();
        must(rows.readings(0) > 1 && rows.readings(2) == MensuralRows.MANY && rows.readings(3) == 0,
            "the rows have several readings, MANY, and none");
        long[] fresh = countAll(new MensuralRows());
        System.out.println("a new object: " + fresh[0] + " objects and arrays, " + fresh[1] + " fields and elements");
        must(fresh[0] * CALLS <= ROOM_OBJECTS, "the objects of 512 constructors have room");
        must(fresh[1] * CALLS <= ROOM_ELEMENTS, "the fields and elements of 512 constructors have room");
        // The machine loads classes and joins calls at their first use, which is no making of the class.
        for (int which = 0; which < NAMES.length; which++) {
            bytesOf(filled(), which);
        }
        bytesOfMixed(filled());
        for (int which = 0; which < NAMES.length; which++) {
            long bytes = bytesOf(filled(), which);
            must(bytes == 0, NAMES[which] + " makes nothing, but made bytes: " + bytes);
        }
        MensuralRows used = filled();
        long bytes = bytesOfMixed(used);
        must(bytes == 0, "512 calls make nothing, but made bytes: " + bytes);
        long[] kept = countAll(used);
        // The reader knows which voice it read last: a reference more to what was there before.
        must(kept[0] == fresh[0] && kept[1] == fresh[1], "no more is kept than the constructor made");
        System.out.println(wrong == 0 ? "calls make nothing" : wrong + " wrong");
        if (wrong != 0 || sum == 0) {
            System.exit(1);
        }
    }
}
