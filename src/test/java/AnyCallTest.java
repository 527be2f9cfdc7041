import java.lang.reflect.Method;
import java.lang.reflect.Modifier;
import java.util.Arrays;
import java.util.Comparator;
import java.util.Random;

/** Calls at random, with any arguments: none throws, all end, and a second object answers alike. */
public final class AnyCallTest {
    private static final Check CHECK = new Check("AnyCallTest");
    private static final int[] EDGES = {Integer.MIN_VALUE, Integer.MIN_VALUE + 1, -1000000000, -100000, -99999, -10000,
        -9999, -4, -3, -2, -1, 0, 1, 2, 3, 4, 5, 6, 7, 8, 9, 11, 12, 15, 16, 23, 24, 30, 31, 39, 40, 41, 99, 100, 149,
        150, 199, 200, 299, 300, 399, 400, 401, 512, 999, 1000, 1001, 8999, 9000, 9999, 10000, 65535, 65536, 99999,
        100000, 999999, 1000000, 9999999, 10000000, 99999999, 100000000, Integer.MAX_VALUE - 1, Integer.MAX_VALUE};
    private static final String[] TEXTS = {"reach 3 + minute;not fish if inside = 1 and side = 0;may stop if inside = 1",
        "mesh 60 unless kind = 2", "strike 0;may fish", "may cut if no [x < 3 or y > (depth - 2) * speed]", "reach"};

    private final Random random;
    private final Method[] methods;

    private AnyCallTest(long seed) {
        random = new Random(seed);
        methods = NetsCut.class.getDeclaredMethods();
        Arrays.sort(methods, Comparator.comparing(Method::getName));
    }

    public static void main(String[] args) {
        for (int seed = 0; seed < 400; seed++) {
            new AnyCallTest(seed).run(seed % 4);
        }
        CHECK.end();
    }

    private void run(int wildness) {
        NetsCut x = new NetsCut();
        NetsCut twin = new NetsCut();
        for (int call = 0; call < 512; call++) {
            if (random.nextInt(20) == 0) {
                String text = TEXTS[random.nextInt(TEXTS.length)];
                x.end(0);
                twin.end(0);
                Check.type(x, text);
                Check.type(twin, text);
            }
            Method method = methods[random.nextInt(methods.length)];
            if (!Modifier.isPublic(method.getModifiers())) {
                continue;
            }
            int[] arguments = new int[method.getParameterCount()];
            for (int i = 0; i < arguments.length; i++) {
                arguments[i] = argument(wildness);
            }
            CHECK.due(Calls.told(method.getName(), arguments), Calls.answer(x, method, arguments),
                    Calls.answer(twin, method, arguments));
        }
    }

    private int argument(int wildness) {
        int kind = random.nextInt(10);
        if (kind < wildness) {
            return EDGES[random.nextInt(EDGES.length)];
        }
        return kind == 9 ? random.nextInt() >> random.nextInt(32) : random.nextInt(1 + random.nextInt(8));
    }
}
