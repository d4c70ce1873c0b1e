import java.lang.reflect.Array;
import java.lang.reflect.Field;
import java.lang.reflect.Modifier;
import java.lang.management.ManagementFactory;
import java.util.ArrayDeque;
import java.util.Collections;
import java.util.IdentityHashMap;
import java.util.Set;

/** How much an office takes: the room of a run is small, so rows are made once and calls make none. */
public final class RoomTest {
    private static final int MOST_OBJECTS = 120;
    private static final int MOST_ELEMENTS = 3000;
    private static final int CALLS = 400;
    /** The least of some runs counts: what the machine itself books now and then is not ours. */
    private static final int RUNS = 5;
    private static final String TEXT = "lands 4 1;border 0 1;border 1 2;border 2 3;border 0 2;type single 1 5 4 3 1 2;"
            + "type shared 2 2 6 1 9 1 2;type multi 1 9 1 5 1 2 3;" + "lorry 0 1;lorry 0 2;".repeat(4);

    private static int objects;
    private static int elements;

    public static void main(String[] args) throws IllegalAccessException {
        PermitOffice office = new PermitOffice();
        count(office);
        int first = objects;
        int firstElements = elements;
        Check.yes("objects of an office: " + first, first <= MOST_OBJECTS);
        Check.yes("fields and elements: " + firstElements, firstElements <= MOST_ELEMENTS);
        long least = Long.MAX_VALUE;
        for (int run = 0; run < RUNS; run++) {
            office = new PermitOffice();
            Check.tape(office, TEXT);
            least = Math.min(least, bytesMade(office));
        }
        Check.same("bytes made by the calls", 0, least);
        count(office);
        Check.same("objects behind the calls", first, objects);
        Check.same("fields and elements behind the calls", firstElements, elements);
        Check.end("RoomTest");
    }

    private static long bytesMade(PermitOffice office) {
        var threads = (com.sun.management.ThreadMXBean) ManagementFactory.getThreadMXBean();
        long before = threads.getCurrentThreadAllocatedBytes();
        live(office);
        return threads.getCurrentThreadAllocatedBytes() - before;
    }

    /** Some 460 calls of all sorts, none of which throws. */
    private static void live(PermitOffice x) {
        int made = 0;
        x.text();
        while (made < CALLS) {
            for (int lorry = 0; lorry < 8; lorry++) {
                x.ask(lorry, lorry % 2 == 0 ? 210 : 10, lorry % 2 == 0 ? 3 : 2);
                x.shortest(lorry, 3);
                x.lorry(lorry, 2);
                x.stop(lorry, 1);
            }
            x.plan(0);
            x.plan(10);
            x.served(0, 3);
            x.needs(1);
            x.free(1, 6);
            x.fits(0, 0);
            x.assign();
            x.pass(2);
            x.drop(x.now(4) - 1);
            for (int lorry = 0; lorry < 8; lorry++) {
                if (x.lawful(lorry, 0) != 1) {
                    x.home(lorry);
                }
            }
            x.handBack(0, 1);
            x.type(0, 7);
            x.ledger(0, 2);
            x.trip(0, 3);
            x.undo();
            x.feed(1, 2, 3, 4, 5);
            x.end(0);
            x.fault();
            made += 66;
        }
    }

    /** Counts all that is reached from an object, each once. */
    private static void count(Object root) throws IllegalAccessException {
        objects = 0;
        elements = 0;
        Set<Object> seen = Collections.newSetFromMap(new IdentityHashMap<>());
        ArrayDeque<Object> open = new ArrayDeque<>();
        open.add(root);
        seen.add(root);
        while (!open.isEmpty()) {
            Object one = open.remove();
            objects++;
            if (one.getClass().isArray()) {
                elements += Array.getLength(one);
                continue;
            }
            for (Field field : one.getClass().getDeclaredFields()) {
                if (!Modifier.isStatic(field.getModifiers())) {
                    elements++;
                    field.setAccessible(true);
                    Object held = field.getType().isPrimitive() ? null : field.get(one);
                    if (held != null && seen.add(held)) {
                        open.add(held);
                    }
                }
            }
        }
    }
}
