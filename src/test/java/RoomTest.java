import java.lang.management.ManagementFactory;
import java.lang.reflect.Array;
import java.lang.reflect.Field;
import java.lang.reflect.Modifier;
import java.util.ArrayList;
import java.util.Arrays;
import java.util.IdentityHashMap;
import java.util.List;
import java.util.Map;

/** All calls of a run live in one room: an object's rows are made once, and the dearest calls make nothing new. */
public final class RoomTest {
    private static final com.sun.management.ThreadMXBean MEMORY =
        (com.sun.management.ThreadMXBean) ManagementFactory.getThreadMXBean();
    /** useAll has 23 calls a round: as many rounds as an object's 512 calls let. */
    private static final int ROUNDS = 22;

    public static void main(String[] args) {
        kept("a new object", new LightLines(), 85, 15_200);
        LightLines used = new LightLines();
        useAll(used);
        Check.due("all strokes are there", used.count(1), 8);
        // A stroke is an object and two rows: 3 made, 2 fields, and 16 elements at most.
        kept("with 8 strokes", used, 85 + 8 * 3, 15_200 + 8 * 18);
        madeByCalls();
        Check.end();
    }

    /** What can be reached from it: objects and arrays, and the fields and elements of all these. */
    private static void kept(String name, LightLines x, int mostObjects, int mostElements) {
        Map<Object, Boolean> seen = new IdentityHashMap<>();
        List<Object> open = new ArrayList<>(List.of(x));
        seen.put(x, true);
        int elements = 0;
        for (int i = 0; i < open.size(); i++) {
            List<Object> parts = partsOf(open.get(i));
            elements += open.get(i).getClass().isArray() ? Array.getLength(open.get(i)) : parts.size();
            for (Object part : parts) {
                if (part != null && !(part instanceof Number || part instanceof Boolean) && seen.put(part, true) == null) {
                    open.add(part);
                }
            }
        }
        Check.due(name + " has " + open.size() + " objects", open.size() <= mostObjects ? 1 : 0, 1);
        Check.due(name + " has " + elements + " elements", elements <= mostElements ? 1 : 0, 1);
    }

    private static List<Object> partsOf(Object whole) {
        List<Object> parts = new ArrayList<>();
        if (whole instanceof Object[] row) {
            parts.addAll(Arrays.asList(row));
        }
        for (Class<?> c = whole.getClass(); c != Object.class && !c.isArray(); c = c.getSuperclass()) {
            for (Field field : c.getDeclaredFields()) {
                if (!Modifier.isStatic(field.getModifiers())) {
                    field.setAccessible(true);
                    try {
                        parts.add(field.get(whole));
                    } catch (IllegalAccessException e) {
                        throw new IllegalStateException(e);
                    }
                }
            }
        }
        return parts;
    }

    /** What is made and not kept is counted in the room, too; here it is seen by its bytes. */
    private static void madeByCalls() {
        long thread = Thread.currentThread().getId();
        useAll(new LightLines());
        LightLines x = new LightLines();
        long start = MEMORY.getThreadAllocatedBytes(thread);
        useAll(x);
        long eightStrokes = MEMORY.getThreadAllocatedBytes(thread) - start;
        Check.due("its calls make 8 strokes and no more: " + eightStrokes + " bytes", eightStrokes <= 2_000 ? 1 : 0, 1);
    }

    private static int useAll(LightLines x) {
        int sum = 0;
        for (int i = 0; i < ROUNDS; i++) {
            sum += x.sheet(0, 2, 40) + x.set(0, 2, 900) + x.set(0, 5, 900 - i) + x.copy(0, 0, 0, 8, 16) + x.stroke(0, 0, 8);
            sum += x.best() + x.rule(0, 9 + i % 2) + x.rule(4, i % 5) + x.zone(i % 4, 5, 5, 70, 70) + x.open((i + 1) % 4);
            sum += x.ticks() + x.tick(9, 7) + x.all(4) + x.burn(1, 1) + x.ask(0, 1) + x.as(0, 3) + x.count(2) + x.drop(0);
            sum += x.feed(0x6174203120646172L, 8) + x.feed(0x6b3b6174L, 4) + x.cues() + x.frame(i, 0) + x.frame(i, 1);
        }
        return sum;
    }
}
