import java.io.IOException;
import java.util.ArrayDeque;
import java.util.ArrayList;
import java.util.Arrays;
import java.util.List;
import java.util.Map;
import java.util.Set;
import java.util.TreeMap;

/** What LANGUAGE.md asks of the class, as far as it can be seen in what the compiler made of it. */
final class MachineTest {
    private static final int MOST_DEPTH = 8;
    private static final Set<String> LIBRARY = Set.of("java/lang/Object.<init>()V", "java/lang/Math.max(II)I",
        "java/lang/Math.max(JJ)J", "java/lang/Math.min(II)I", "java/lang/Math.min(JJ)J", "java/lang/Math.abs(I)I",
        "java/lang/Math.floorMod(II)I",
        "java/lang/System.arraycopy(Ljava/lang/Object;ILjava/lang/Object;II)V");
    private static final Map<Integer, String> FORBIDDEN = Map.of(ClassFile.THROW, "does not throw",
        ClassFile.CAST, "does not cast", ClassFile.INVOKE_DYNAMIC, "has no lambda and joins no texts by +",
        ClassFile.ENTER_MONITOR, "is not synchronized", ClassFile.EXIT_MONITOR, "is not synchronized",
        ClassFile.JUMP_TO_SUBROUTINE, "has no subroutine");
    private static final Check CHECK = new Check();

    private final Map<String, ClassFile.Body> bodies = new TreeMap<>();
    private final Map<String, Integer> depths = new TreeMap<>();
    /** The calls that stand open while depths are found. */
    private final ArrayDeque<String> chain = new ArrayDeque<>();

    private MachineTest() {
    }

    public static void main(String[] args) throws IOException {
        MachineTest test = new MachineTest();
        test.read();
        test.bodies.values().forEach(MachineTest::looksAllowed);
        test.callsAreNotDeep();
        CHECK.end();
    }

    private void read() throws IOException {
        List<Class<?>> all = new ArrayList<>(Arrays.asList(ConnectionFamily.class.getDeclaredClasses()));
        all.add(ConnectionFamily.class);
        for (Class<?> one : all) {
            for (ClassFile.Body body : ClassFile.of(one).bodies) {
                bodies.put(body.name, body);
            }
        }
        CHECK.holds("the methods are found: " + bodies.size(), bodies.size() > 27);
    }

    private static void looksAllowed(ClassFile.Body body) {
        CHECK.due("handlers of " + body.name, body.handlers, 0);
        FORBIDDEN.forEach((instruction, rule) ->
            CHECK.holds(body.name + " " + rule, !body.instructions.contains(instruction)));
        CHECK.holds(body.name + " changes no static field",
            body.name.endsWith(".<clinit>()V") || !body.instructions.contains(ClassFile.PUT_STATIC));
        for (String called : body.calls) {
            CHECK.holds(called + " may be called, as " + body.name + " does", called.startsWith("ConnectionFamily") || LIBRARY.contains(called));
        }
    }

    private void callsAreNotDeep() {
        int greatest = 0;
        for (String name : bodies.keySet()) {
            int depth = depthOf(name);
            greatest = Math.max(greatest, depth);
            CHECK.holds(name + " goes not too deep: " + depth, depth <= MOST_DEPTH);
        }
        System.out.println(bodies.size() + " methods, calls at most " + greatest + " deep");
    }

    /** How many calls of own methods can stand open at once, with this one; a method that comes back to itself is told. */
    private int depthOf(String name) {
        if (chain.contains(name)) {
            CHECK.holds(name + " does not call itself, by " + chain, false);
            return 0;
        }
        if (depths.containsKey(name)) {
            return depths.get(name);
        }
        chain.push(name);
        int depth = 0;
        for (String called : bodies.get(name).calls) {
            depth = Math.max(depth, bodies.containsKey(called) ? depthOf(called) : 0);
        }
        chain.pop();
        depths.put(name, depth + 1);
        return depth + 1;
    }
}
