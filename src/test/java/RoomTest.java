import com.sun.management.ThreadMXBean;
import java.lang.management.ManagementFactory;
import java.lang.reflect.Array;
import java.lang.reflect.Field;
import java.lang.reflect.Modifier;
import java.util.IdentityHashMap;
import java.util.Map;

/**
 * The room that a desk takes: all calls of one run share some 600,000 objects and 7.3 million fields and
 * elements, so a desk is small from the first, does not grow, and its calls make nothing.
 */
public final class RoomTest {
    private static final int MOST_OBJECTS = 40;
    private static final int MOST_ELEMENTS = 1000;
    private static final int CALLS = 100_000;

    private final Map<Object, Boolean> seen = new IdentityHashMap<>();
    private int elements;

    public static void main(String[] args) throws IllegalAccessException {
        Due due = new Due();
        aDeskIsSmall(due);
        aDeskDoesNotGrow(due);
        callsMakeNothing(due);
        due.end();
    }

    private static RoomTest of(CaseDesk desk) throws IllegalAccessException {
        RoomTest room = new RoomTest();
        room.count(desk);
        return room;
    }

    private void count(Object thing) throws IllegalAccessException {
        if (thing == null || seen.put(thing, true) != null) {
            return;
        }
        if (thing.getClass().isArray()) {
            elements += Array.getLength(thing);
            return;
        }
        for (Field field : thing.getClass().getDeclaredFields()) {
            if (Modifier.isStatic(field.getModifiers())) {
                continue;
            }
            elements++;
            if (!field.getType().isPrimitive()) {
                field.setAccessible(true);
                count(field.get(thing));
            }
        }
    }

    private static void aDeskIsSmall(Due due) throws IllegalAccessException {
        RoomTest room = of(new CaseDesk());
        due.is(room.seen.size() + " objects, at most " + MOST_OBJECTS, room.seen.size() <= MOST_OBJECTS, true);
        due.is(room.elements + " elements, at most " + MOST_ELEMENTS, room.elements <= MOST_ELEMENTS, true);
    }

    /** Twelve items, sixteen sentries, forty instances, a long history: the room of a new desk. */
    private static CaseDesk full() {
        CaseDesk desk = new CaseDesk();
        desk.item(3, 0, 1);
        for (int n = 2; n < 12; n++) {
            desk.item(1, 0, 0);
        }
        for (int s = 0; s < 16; s++) {
            desk.on(desk.sentry(2 + s % 10, true), 100, 0);
            desk.on(s, 101, 0);
            desk.when(s, 0, 2, 100);
        }
        desk.begin(60);
        int listener = 1;
        while (desk.instances() < 40) {
            desk.move(listener, 3);
            listener = desk.instances() - 1;
        }
        return desk;
    }

    private static void aDeskDoesNotGrow(Due due) throws IllegalAccessException {
        RoomTest early = of(new CaseDesk());
        RoomTest late = of(full());
        due.is("objects of a full desk", late.seen.size(), early.seen.size());
        due.is("elements of a full desk", late.elements, early.elements);
    }

    /** The machine may make a little of its own meanwhile, but no object for every call. */
    private static void callsMakeNothing(Due due) {
        ThreadMXBean threads = (ThreadMXBean) ManagementFactory.getThreadMXBean();
        CaseDesk desk = full();
        work(desk);
        long before = threads.getCurrentThreadAllocatedBytes();
        int answers = work(desk);
        long made = threads.getCurrentThreadAllocatedBytes() - before;
        due.is("the calls did something", answers != 0, true);
        due.is(made + " bytes for " + CALLS + " calls of each kind", made < CALLS, true);
    }

    private static int work(CaseDesk desk) {
        int answers = 0;
        for (int n = 0; n < CALLS; n++) {
            answers += desk.move(0, n % 2 == 0 ? 5 : 6) + desk.set(n % 4, n % 50);
            answers += desk.value(n % 5) + desk.instances() + desk.instance(n % 41, n % 5);
            answers += desk.marked(n % 41, n % 17, n % 3) || desk.can(n % 41, n % 11) ? 1 : 0;
            answers += desk.moves() + desk.history(n % 49, n % 3);
        }
        return answers;
    }
}
