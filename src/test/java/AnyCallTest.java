import java.lang.reflect.InvocationTargetException;
import java.lang.reflect.Method;
import java.lang.reflect.Modifier;
import java.util.ArrayList;
import java.util.Arrays;
import java.util.List;
import java.util.function.Supplier;

/** Rule 7 of the language: no call may ever throw, for any arguments in any state. */
public final class AnyCallTest {
    private static final Check CHECK = new Check();
    private static final int MOST_CALLS = 400;
    private static final Object[] INTS = {Integer.MIN_VALUE, Integer.MIN_VALUE + 7, -65536, -41, -9, -8, -7, -3, -2, -1,
        0, 1, 2, 3, 5, 6, 7, 8, 9, 12, 13, 17, 18, 31, 32, 39, 40, 41, 63, 64, 255, 256, 65536, 1 << 30,
        Integer.MAX_VALUE - 6, Integer.MAX_VALUE};
    /** For calls of three and more arguments, as there are many rows of them. */
    private static final Object[] FEW_INTS = {Integer.MIN_VALUE, -8, -1, 0, 1, 5, 6, 7, 8, 12, 13, 40, Integer.MAX_VALUE};
    private static final Object[] LONGS = {Long.MIN_VALUE, -1L, 0L, 1L, 255L, 0x2020202020202020L, 0x6e6f64657320393bL,
        0x3939393939393939L, 0x7a7a7a7a7a7a7a7aL, 0x3b3b3b3b3b3b3b3bL, Long.MAX_VALUE};
    private static final Object[] BOOLEANS = {false, true};

    private static Object[] valuesOf(Class<?> type, int arguments) {
        if (type == boolean.class) {
            return BOOLEANS;
        }
        return type == long.class ? LONGS : arguments > 2 ? FEW_INTS : INTS;
    }

    private static List<Object[]> argumentsOf(Method m) {
        List<Object[]> all = new ArrayList<>();
        all.add(new Object[m.getParameterCount()]);
        for (int i = 0; i < m.getParameterCount(); i++) {
            List<Object[]> longer = new ArrayList<>();
            for (Object[] begun : all) {
                for (Object value : valuesOf(m.getParameterTypes()[i], m.getParameterCount())) {
                    Object[] next = begun.clone();
                    next[i] = value;
                    longer.add(next);
                }
            }
            all = longer;
        }
        return all;
    }

    private static boolean ends(SourceRoutes x, Method m, Object[] arguments) throws IllegalAccessException {
        try {
            m.invoke(x, arguments);
            return true;
        } catch (InvocationTargetException e) {
            System.out.println(m.getName() + Arrays.toString(arguments) + " threw " + e.getCause());
            return false;
        }
    }

    private static void callAll(String state, Supplier<SourceRoutes> made) throws IllegalAccessException {
        for (Method m : SourceRoutes.class.getDeclaredMethods()) {
            if (!Modifier.isPublic(m.getModifiers())) {
                continue;
            }
            SourceRoutes x = made.get();
            int calls = 0;
            boolean good = true;
            for (Object[] arguments : argumentsOf(m)) {
                if (calls++ == MOST_CALLS) {
                    x = made.get();
                    calls = 0;
                }
                good &= ends(x, m, arguments);
            }
            CHECK.due(m.getName() + " ends in the state " + state, good, true);
        }
    }

    /** Eight NODES, all NEAR to all, with so much sent that THE AIR is full. */
    private static SourceRoutes crowd() {
        StringBuilder all = new StringBuilder("nodes 8;buffer 4;");
        for (int a = 0; a < 8; a++) {
            for (int b = a + 1; b < 8; b++) {
                all.append("link ").append(a).append(" ").append(b).append(";");
            }
        }
        SourceRoutes x = Check.net(all + "map 3;map 7;again 1;");
        for (int k = 0; k < 20; k++) {
            x.send(k % 8, (3 * k + 1) % 8);
        }
        x.ticks(2);
        return x;
    }

    private static SourceRoutes fullText() {
        SourceRoutes x = new SourceRoutes();
        Check.tell(x, "9".repeat(400));
        return x;
    }

    public static void main(String[] args) throws IllegalAccessException {
        CHECK.of("Rule 7");
        callAll("new", SourceRoutes::new);
        callAll("busy", State::busy);
        callAll("crowd", AnyCallTest::crowd);
        callAll("full text", AnyCallTest::fullText);
        CHECK.end("AnyCallTest");
    }
}
