import java.lang.reflect.Array;
import java.lang.reflect.Field;
import java.lang.reflect.Modifier;
import java.util.ArrayDeque;
import java.util.Collections;
import java.util.Deque;
import java.util.IdentityHashMap;
import java.util.Set;

/**
 * All calls of a run live in one room of some 600,000 objects and arrays, 7.3 million fields and elements: an object
 * is small, and no call makes anything.
 */
public final class RoomTest {
    /** By these there is room for 3000 objects. */
    private static final int OBJECTS_MOST = 200, PLACES_MOST = 2400;
    private static final Check C = new Check();
    /** What calls answer goes here, so that none is left out. */
    private static long sum;

    public static void main(String[] args) throws IllegalAccessException {
        MoonReapers x = Check.told("night 5;strip 9 0;strip 8 1;strip 5 2;reaper 4 1 0;reaper 3 0 2;cloud 1;thistle 0;");
        isSmall("a new object", new MoonReapers());
        everyCall(x);
        isSmall("behind every call", x);
        // the machine makes things of its own when code runs for the first time
        for (int k = 0; k < 200; k++) {
            everyCall(x);
        }
        long before = made();
        for (int k = 0; k < 200; k++) {
            everyCall(x);
        }
        long bytes = made() - before;
        C.holds("200 times every call made " + bytes + " bytes", bytes < 2048);
        C.holds("they answered", sum != 0);
        C.finish();
    }

    private static long made() {
        return ((com.sun.management.ThreadMXBean) java.lang.management.ManagementFactory.getThreadMXBean())
                .getThreadAllocatedBytes(Thread.currentThread().getId());
    }

    private static void isSmall(String what, MoonReapers x) throws IllegalAccessException {
        Set<Object> found = Collections.newSetFromMap(new IdentityHashMap<>());
        Deque<Object> open = new ArrayDeque<>();
        open.add(x);
        int places = 0;
        while (!open.isEmpty()) {
            Object o = open.remove();
            if (found.add(o)) {
                places += o.getClass().isArray() ? elements(o, open) : fields(o, open);
            }
        }
        C.holds(what + " has " + found.size() + " objects", found.size() <= OBJECTS_MOST);
        C.holds(what + " has " + places + " fields and elements", places <= PLACES_MOST);
    }

    private static int elements(Object array, Deque<Object> open) {
        int length = Array.getLength(array);
        for (int k = 0; k < length && !array.getClass().getComponentType().isPrimitive(); k++) {
            open.add(Array.get(array, k));
        }
        return length;
    }

    private static int fields(Object o, Deque<Object> open) throws IllegalAccessException {
        int n = 0;
        for (Field f : o.getClass().getDeclaredFields()) {
            if (!Modifier.isStatic(f.getModifiers())) {
                n++;
                f.setAccessible(true);
                if (!f.getType().isPrimitive()) {
                    open.add(f.get(o));
                }
            }
        }
        return n;
    }

    private static void everyCall(MoonReapers x) {
        told(x);
        changed(x);
        thought(x);
        sheets(x);
    }

    /** The first text has a fault, the second is taken. */
    private static void told(MoonReapers x) {
        x.end(0);
        Check.feed(x, "strip 1 100;");
        sum += x.text() + x.fault();
        Check.feed(x, "night 5;strip 9 0;strip 8 1;strip 5 2;reaper 4 1 0;reaper 3 0 2;cloud 1;thistle 0;");
        sum += x.text() + x.rule(6) + x.strip(0, 3) + x.reaper(0, 4) + x.harvest(0) + x.count(6) + x.count(9);
    }

    private static void changed(MoonReapers x) {
        sum += x.send(0, 1) + x.lend(0, 1, 1) + x.whet(0, 1) + x.fill(0, 2) + x.cloud(3, true) + x.thistle(1, true)
                + x.own(1, 3) + x.grow(1, 7) + x.go(1) + x.keep(0) + x.keep(1) + x.back(0);
    }

    private static void thought(MoonReapers x) {
        sum += x.ahead(0, 3, 4) + x.stands(1, 3) + x.done(0) + x.done(1) + x.left() + x.begin(0) + x.begin(10)
                + x.best(0, 0) + x.oil(0) + x.least(0) + x.least(11) + x.luck(3, 0) + x.luck(3, 1) + x.drift(7, 4, 0)
                + x.see(0, 1, true) + x.see(5, 1, false) + x.hare(3) + x.runs() + x.look(2, 0) + x.forget(1)
                + x.pay(0, 7) + x.pay(1, 9) + x.fits(0) + x.fits(10) + x.owe(1);
    }

    private static void sheets(MoonReapers x) {
        for (int lane = 0; lane <= 2; lane++) {
            sum += x.sheet(lane, lane, 40) + x.lay(lane, 1, 1) + x.read(lane, lane, 0, 20) + x.torn()
                    + x.read(lane, 2 - lane, 0, 1) + x.read(3, lane, 0, 1) + x.sheet(lane, lane, -1);
        }
    }
}
