import java.lang.reflect.InvocationTargetException;
import java.lang.reflect.Method;
import java.lang.reflect.Modifier;
import java.util.ArrayList;
import java.util.Comparator;
import java.util.List;
import java.util.Random;

/** What holds for all promises: no call throws, whatever the arguments and the state, and each ends soon. */
public final class WildTest {
    private static final Check check = new Check();

    public static void main(String[] args) throws Exception {
        wildCalls();
        largestAndSmallest();
        dearestCalls();
        check.finish("WildTest");
    }

    private static List<Method> calls() {
        List<Method> calls = new ArrayList<>();
        for (Method m : SandMarch.class.getDeclaredMethods()) {
            if (Modifier.isPublic(m.getModifiers())) calls.add(m);
        }
        calls.sort(Comparator.comparing(Method::getName));
        return calls;
    }

    private static void wildCalls() throws Exception {
        List<Method> calls = calls();
        int[] edges = {Integer.MIN_VALUE, Integer.MIN_VALUE + 1, -2, -1, 0, 1, 2, 3, 7, 12, 20, 49, 50, 95, 96, 97, 200, 500,
            900, 1000, 9999, Integer.MAX_VALUE - 1, Integer.MAX_VALUE};
        for (int run = 0; run < 400; run++) {
            Random random = new Random(run);
            SandMarch x = new SandMarch();
            for (int i = 0; i < 250; i++) {
                Method m = calls.get(random.nextInt(calls.size()));
                if (random.nextInt(60) == 0) {
                    Check.tell(x, Texts.any(random));
                    m = SandMarch.class.getMethod("field");
                }
                Class<?>[] types = m.getParameterTypes();
                Object[] arguments = new Object[types.length];
                for (int k = 0; k < types.length; k++) {
                    arguments[k] = types[k] == boolean.class ? (Object) random.nextBoolean()
                            : (Object) (random.nextBoolean() ? edges[random.nextInt(edges.length)] : random.nextInt(24));
                }
                try {
                    m.invoke(x, arguments);
                } catch (InvocationTargetException e) {
                    check.due(m.getName() + java.util.Arrays.toString(arguments) + " threw " + e.getCause(), 1, 0);
                }
            }
            int sum = 0;
            int cells = x.about(2);
            for (int cell = 0; cell < cells; cell++) {
                int height = x.cell(cell, 0);
                sum += height;
                check.due("no height below 0", height >= 0, true);
            }
            check.due("all slabs", x.all(0), sum);
            check.due("no more than the slope", x.all(4) <= x.about(7), true);
        }
    }

    /** All that can be asked of the largest field and of the smallest one, with the highest sand. */
    private static void largestAndSmallest() {
        for (String size : new String[] {"size 12 by 8;", "size 3 by 1;", "size 12 by 1;", "size 3 by 8;"}) {
            for (String sand : new String[] {"sand 0;", "sand 9;", "sand 9;slope 9;" + "heap 0 0 50;".repeat(20)}) {
                Asked asked = new Asked(() -> Check.fieldOf(size + sand));
                check.due("asked of " + size + sand, asked.count() > 1000, true);
            }
        }
    }

    /** The dearest texts and calls end soon. */
    private static void dearestCalls() {
        SandMarch x = Check.fieldOf("size 12 by 8;sand 9;slope 1;stick 0 0;shadow 9;" + "heap 11 7 50;".repeat(20));
        long start = System.nanoTime();
        for (int i = 0; i < 100; i++) {
            x.tallest(200, i % 2);
            x.ask(200, i % 2, 0);
            x.would(500, 3);
        }
        for (int i = 0; i < 20; i++) x.seen(200, i, 20, true);
        check.due("within a minute", System.nanoTime() - start < 60_000_000_000L, true);
        check.due("slabs", x.all(0), 9 * 96 + 1000);
    }
}
