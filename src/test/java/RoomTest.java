import java.lang.reflect.Array;
import java.lang.reflect.Field;
import java.lang.reflect.Modifier;
import java.util.ArrayDeque;
import java.util.IdentityHashMap;

/** The one room of all calls: what an object makes is made with it, and no call makes, or lets go, anything. */
public final class RoomTest {
    private static final int MOST_OBJECTS = 100, MOST_PLACES = 5000;

    public static void main(String[] args) throws Exception {
        Due due = new Due();
        FootOnTheOtherPedal x = new FootOnTheOtherPedal();
        IdentityHashMap<Object, Integer> first = reached(x);
        int places = 0;
        for (int size : first.values()) {
            places += size;
        }
        due.holds("objects and arrays of one: " + first.size(), first.size() <= MOST_OBJECTS);
        due.holds("fields and elements of one: " + places, places <= MOST_PLACES);
        callAll(x);
        IdentityHashMap<Object, Integer> then = reached(x);
        due.is("objects and arrays behind calls", then.size(), first.size());
        due.holds("they are the same ones", first.keySet().containsAll(then.keySet()));
        dearestCalls(due, x);
        due.end();
    }

    /** Each method of the face, so that it does what it does. */
    private static void callAll(FootOnTheOtherPedal x) {
        for (int k = 0; k < 5; k++) {
            x.learner(k + 1, k);
        }
        String tape = "teaches 9 - done + help ; fades 1 ; nerves 6 ;";
        for (int text = 0; text < 5; text++) {
            for (int k = 0; k < tape.length(); k++) {
                x.feed(tape.charAt(k));
            }
            x.text();
        }
        x.force(1);
        for (int k = 0; k < 4; k++) {
            x.sheet(k, k % 3, 40);
            x.cell(k, 3, 7);
        }
        x.image();
        x.set(10, 0, 50);
        x.drive(0, 0, 1);
        x.night();
        x.told(0, 7);
        x.asks(0, 0, 0);
        x.copy(0, 0, 3, 1, 9);
        x.learners(0, 0, 0, 5);
        x.taken(0, 0);
        x.gap(0, 1);
        x.count(3);
        x.drawn(7, 0);
        x.back();
    }

    /** The calls that try the most: were each trial an object, the machine would have counted it. */
    private static void dearestCalls(Due due, FootOnTheOtherPedal x) {
        com.sun.management.ThreadMXBean counter =
            (com.sun.management.ThreadMXBean) java.lang.management.ManagementFactory.getThreadMXBean();
        if (!counter.isThreadAllocatedMemorySupported() || !counter.isThreadAllocatedMemoryEnabled()) {
            return;
        }
        long thread = Thread.currentThread().getId();
        dear(x);
        long ahead = counter.getThreadAllocatedBytes(thread);
        for (int k = 0; k < 100; k++) {
            dear(x);
        }
        long made = counter.getThreadAllocatedBytes(thread) - ahead;
        due.holds("a hundred times the dearest calls made " + made + " bytes", made < 100 * 100);
    }

    private static void dear(FootOnTheOtherPedal x) {
        x.film(0, 0, 1, 40);
        for (int what = 0; what <= 8; what++) {
            x.tells(0, 0, 1, what);
        }
        x.hours(0, 3, 1, 0);
        x.best(0, 0);
        x.takes(0, 0, 9);
        x.late(0, 7);
        x.faded(0, 40);
        x.test(0, 255, 0);
        x.chance(1, 20, 0, 0);
    }

    /** All that is reached from an object through its fields, each with how many fields or elements it has. */
    private static IdentityHashMap<Object, Integer> reached(Object from) throws Exception {
        IdentityHashMap<Object, Integer> found = new IdentityHashMap<>();
        ArrayDeque<Object> open = new ArrayDeque<>();
        open.add(from);
        while (!open.isEmpty()) {
            Object one = open.remove();
            if (found.containsKey(one)) {
                continue;
            }
            if (one.getClass().isArray()) {
                found.put(one, Array.getLength(one));
                for (int k = 0; one instanceof Object[] && k < Array.getLength(one); k++) {
                    addTo(open, Array.get(one, k));
                }
                continue;
            }
            int fields = 0;
            for (Field field : one.getClass().getDeclaredFields()) {
                if (Modifier.isStatic(field.getModifiers())) {
                    continue;
                }
                fields++;
                field.setAccessible(true);
                if (!field.getType().isPrimitive()) {
                    addTo(open, field.get(one));
                }
            }
            found.put(one, fields);
        }
        return found;
    }

    private static void addTo(ArrayDeque<Object> open, Object one) {
        if (one != null) {
            open.add(one);
        }
    }
}
