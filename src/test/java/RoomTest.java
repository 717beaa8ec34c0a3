import com.sun.management.ThreadMXBean;
import java.io.IOException;
import java.lang.management.ManagementFactory;
import java.lang.reflect.Array;
import java.lang.reflect.Field;
import java.lang.reflect.Modifier;
import java.nio.file.Files;
import java.nio.file.Path;
import java.util.Collections;
import java.util.IdentityHashMap;
import java.util.Locale;
import java.util.Set;

/** All calls of a run live in one room: an object makes all it needs in the constructor, and no call makes more. */
public final class RoomTest {
    /** Of the room, 600,000 and 7,300,000, so much that a thousand objects find place in it. */
    private static final int OBJECTS = 600, FIELDS_AND_ELEMENTS = 7300;

    /** What buildAndAsk calls; seven rounds of it are fewer than the 512 calls that an object is promised for. */
    private static final int CALLS = 71;

    private static long parts = 0;

    public static void main(String[] args) throws IOException, IllegalAccessException {
        NextPaths x = Graphs.ladder();
        Set<Object> before = objectsOf(x);
        isAtMost("objects and arrays", before.size(), OBJECTS);
        isAtMost("fields and elements", parts, FIELDS_AND_ELEMENTS);
        String told = String.format(Locale.ROOT, "%,d objects and arrays with %,d fields and elements",
            before.size(), parts);
        Check.due("README.md tells of " + told + ", 1 if so",
            Files.readString(Path.of("README.md")).contains(told) ? 1 : 0, 1);
        askAll(x);
        Set<Object> after = objectsOf(x);
        Check.due("objects after the calls, 1 if the same", before.equals(after) ? 1 : 0, 1);
        callsMakeNothing();
        Check.end();
    }

    private static void isAtMost(String what, long got, long most) {
        Check.due(got + " " + what + ", 1 if " + most + " at most", got <= most ? 1 : 0, 1);
    }

    private static Set<Object> objectsOf(NextPaths x) throws IllegalAccessException {
        Set<Object> found = Collections.newSetFromMap(new IdentityHashMap<>());
        parts = 0;
        collect(x, found);
        return found;
    }

    private static void collect(Object object, Set<Object> found) throws IllegalAccessException {
        if (object == null || !found.add(object)) {
            return;
        }
        if (object.getClass().isArray()) {
            collectElements(object, found);
            return;
        }
        for (Field field : object.getClass().getDeclaredFields()) {
            if (!Modifier.isStatic(field.getModifiers())) {
                parts++;
                field.setAccessible(true);
                if (!field.getType().isPrimitive()) {
                    collect(field.get(object), found);
                }
            }
        }
    }

    private static void collectElements(Object array, Set<Object> found) throws IllegalAccessException {
        parts += Array.getLength(array);
        if (array instanceof Object[] elements) {
            for (Object element : elements) {
                collect(element, found);
            }
        }
    }

    /** Every method, with the most PATHS there can be, and refused calls. */
    private static int askAll(NextPaths x) {
        int all = x.count(0, 7) + x.next(0, 7, 299) + x.within(0, 7, 0) + x.pairs(0, 7) + x.pair(1457, 1);
        all += x.apart(0, 7, 2, 0) + x.apart(0, 7, 5, 1) + x.most(0, 7, 0) + x.most(0, 7, 1);
        all += x.step(6) + x.sum(1) + x.told(19, 2) + x.of(0) + x.of(2) + x.shut(3, true) + x.shut(3, false);
        all += x.change(19, 700, 7) + x.change(20, 1, 1) + x.arc(0, 1, 1, 1) + x.node() + x.next(0, 7, 300);
        return all;
    }

    private static int buildAndAsk(NextPaths x) {
        int all = x.clear();
        for (int i = 0; i < 8; i++) {
            all += x.node();
        }
        for (int i = 0; i < 20; i++) {
            all += x.arc(i / 3, i / 3 + 1, i, 20 - i);
        }
        return all + askAll(x) + askAll(x);
    }

    /** The least of some rounds, as the machine itself makes an object of its own now and then. */
    private static void callsMakeNothing() {
        ThreadMXBean bean = (ThreadMXBean) ManagementFactory.getThreadMXBean();
        NextPaths x = new NextPaths();
        long least = Long.MAX_VALUE;
        long leastWithoutCalls = Long.MAX_VALUE;
        for (int round = 0; round < 7; round++) {
            long first = bean.getCurrentThreadAllocatedBytes();
            buildAndAsk(x);
            long second = bean.getCurrentThreadAllocatedBytes();
            long third = bean.getCurrentThreadAllocatedBytes();
            least = Math.min(least, second - first);
            leastWithoutCalls = Math.min(leastWithoutCalls, third - second);
        }
        Check.due("bytes made by " + CALLS + " calls", least - leastWithoutCalls, 0);
    }
}
