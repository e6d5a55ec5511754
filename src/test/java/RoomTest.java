import java.lang.reflect.Array;
import java.lang.reflect.Field;
import java.lang.reflect.Modifier;
import java.util.ArrayDeque;
import java.util.Collections;
import java.util.IdentityHashMap;
import java.util.Set;

/**
 * What a run of 512 calls makes must fit into one room: some 600,000 objects and 7.3 million fields and elements.
 * All that the class makes is kept and used again, so that what is kept at the end is what was made.
 */
final class RoomTest {
    private static final int CALLS = 512;
    private static final long MOST_OBJECTS = 600_000, MOST_CELLS = 7_300_000;
    private static final Check CHECK = new Check();

    private RoomTest() {
    }

    public static void main(String[] args) throws ReflectiveOperationException {
        ConnectionFamily fresh = new ConnectionFamily();
        long[] atFirst = measure(fresh);
        ConnectionFamily f = new ConnectionFamily();
        useEverything(f);
        long[] used = measure(f);
        useEverything(f);
        long[] later = measure(f);
        CHECK.due("objects after more calls", later[0], used[0]);
        CHECK.due("cells after more calls", later[1], used[1]);
        System.out.println("a new object: " + atFirst[0] + " objects, " + atFirst[1] + " cells; one in full use: "
            + used[0] + " objects, " + used[1] + " cells");
        CHECK.holds("512 new objects fit", CALLS * atFirst[0] <= MOST_OBJECTS && CALLS * atFirst[1] <= MOST_CELLS);
        // a state is made by a call at most, so that 512 calls make at most so much beside the objects themselves
        CHECK.holds("all states that 512 calls could make fit", CALLS * 2 * atFirst[1] <= MOST_CELLS);
        nothingIsThrownAway();
        CHECK.end();
    }

    private static void useEverything(ConnectionFamily f) {
        Texts.load(f, "1(2(3(4))5)");
        for (int c = 0; c <= 4; c++) {
            f.give(c, 50);
        }
        f.open(0, 3);
        for (int i = 0; i < 20; i++) {
            f.run(60);
            f.setWeight(1, 1 + i % 9);
            f.setBudget(100 + i);
            f.setLink(i % 3, 1 + i % 8);
            f.ifBudget(50, 60);
            f.bestBudget(15);
            f.ifOpened(0, 4, -9);
            f.digest();
            f.fairness();
            f.distance(1, 3);
            f.undo();
        }
        f.close(5);
    }

    private static void nothingIsThrownAway() {
        java.lang.management.ThreadMXBean bean = java.lang.management.ManagementFactory.getThreadMXBean();
        if (!(bean instanceof com.sun.management.ThreadMXBean)) {
            return;
        }
        com.sun.management.ThreadMXBean counter = (com.sun.management.ThreadMXBean) bean;
        ConnectionFamily f = new ConnectionFamily();
        useEverything(f);
        long id = Thread.currentThread().getId();
        long before = counter.getThreadAllocatedBytes(id);
        for (int i = 0; i < 10; i++) {
            useEverything(f);
        }
        long made = counter.getThreadAllocatedBytes(id) - before;
        // a little is left for what the machine and the counter make for themselves
        CHECK.holds(made + " bytes made by calls on an object in full use", made < 20_000);
    }

    /** Counts the objects and arrays that can be reached, and their fields and elements. */
    private static long[] measure(Object root) throws ReflectiveOperationException {
        Set<Object> seen = Collections.newSetFromMap(new IdentityHashMap<>());
        ArrayDeque<Object> open = new ArrayDeque<>();
        open.add(root);
        seen.add(root);
        long cells = 0;
        while (!open.isEmpty()) {
            Object one = open.poll();
            if (one.getClass().isArray()) {
                cells += Array.getLength(one);
                boolean isOfObjects = !one.getClass().getComponentType().isPrimitive();
                for (int i = 0; isOfObjects && i < Array.getLength(one); i++) {
                    visit(Array.get(one, i), seen, open);
                }
                continue;
            }
            for (Field field : one.getClass().getDeclaredFields()) {
                if (!Modifier.isStatic(field.getModifiers())) {
                    cells++;
                    field.setAccessible(true);
                    visit(field.getType().isPrimitive() ? null : field.get(one), seen, open);
                }
            }
        }
        return new long[] {seen.size(), cells};
    }

    private static void visit(Object one, Set<Object> seen, ArrayDeque<Object> open) {
        if (one != null && seen.add(one)) {
            open.add(one);
        }
    }
}
