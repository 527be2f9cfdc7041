import java.lang.reflect.InvocationTargetException;
import java.lang.reflect.Method;
import java.util.ArrayList;
import java.util.Arrays;
import java.util.Comparator;
import java.util.List;
import java.util.Random;

/** Calls at random, with any arguments: none throws, all end, and a second object answers alike. */
public final class AnyCallTest {
    private static final Check CHECK = new Check("AnyCallTest");
    private static final int[] EDGES = {Integer.MIN_VALUE, Integer.MIN_VALUE + 1, -1000000000, -100000, -99999, -10000,
        -9999, -4, -3, -2, -1, 0, 1, 2, 3, 4, 5, 6, 7, 8, 9, 11, 12, 15, 16, 23, 24, 30, 31, 39, 40, 41, 99, 100, 149,
        150, 199, 200, 299, 300, 399, 400, 401, 512, 999, 1000, 1001, 8999, 9000, 9999, 10000, 65535, 65536, 99999,
        100000, 999999, 1000000, 9999999, 10000000, 99999999, 100000000, Integer.MAX_VALUE - 1, Integer.MAX_VALUE};
    private static final String[] TEXTS = {"reach 3 + minute;not fish if inside = 1 and side = 0;may stop if inside = 1",
        "mesh 60 unless kind = 2", "strike 0;may fish", "may cut if no [x < 3 or y > (depth - 2) * speed]", "reach"};

    private final Random random;
    private final Method[] methods;

    private AnyCallTest(long seed) {
        random = new Random(seed);
        methods = NetsCut.class.getDeclaredMethods();
        Arrays.sort(methods, Comparator.comparing(Method::getName));
    }

    public static void main(String[] args) throws IllegalAccessException {
        for (int seed = 0; seed < 400; seed++) {
            new AnyCallTest(seed).run(seed % 4);
        }
        wrongCallsChangeNothing();
        CHECK.end();
    }

    private void run(int wildness) throws IllegalAccessException {
        NetsCut x = new NetsCut();
        NetsCut twin = new NetsCut();
        for (int call = 0; call < 512; call++) {
            if (random.nextInt(20) == 0) {
                String text = TEXTS[random.nextInt(TEXTS.length)];
                x.end(0);
                twin.end(0);
                Check.type(x, text);
                Check.type(twin, text);
            }
            Method method = methods[random.nextInt(methods.length)];
            if (!java.lang.reflect.Modifier.isPublic(method.getModifiers())) {
                continue;
            }
            Object[] arguments = new Object[method.getParameterCount()];
            for (int i = 0; i < arguments.length; i++) {
                arguments[i] = argument(wildness);
            }
            CHECK.due(method.getName() + Arrays.toString(arguments), answer(x, method, arguments),
                    answer(twin, method, arguments));
        }
    }

    private int argument(int wildness) {
        int kind = random.nextInt(10);
        if (kind < wildness) {
            return EDGES[random.nextInt(EDGES.length)];
        }
        return kind == 9 ? random.nextInt() >> random.nextInt(32) : random.nextInt(1 + random.nextInt(8));
    }

    private static long answer(NetsCut x, Method method, Object[] arguments) throws IllegalAccessException {
        try {
            Object answer = method.invoke(x, arguments);
            return answer instanceof Boolean is ? (is ? 1 : 0) : ((Number) answer).longValue();
        } catch (InvocationTargetException e) {
            CHECK.due(method.getName() + Arrays.toString(arguments) + " threw " + e.getCause(), 1, 0);
            return 0;
        }
    }

    /** What an object can be asked without changing it. */
    private static List<Long> state(NetsCut x) {
        List<Long> all = new ArrayList<>();
        for (int what = 0; what < 12; what++) {
            all.add((long) x.count(what));
        }
        for (int k = 0; k < 4; k++) {
            all.add((long) x.chained(k));
            all.add((long) x.escorts(100 + k));
            all.add((long) x.where(k, 8999, 8999));
            all.add((long) x.by(0, k, 0, 1, 1, 8999));
            all.add((long) x.within(0, 1, 2 * k, 2 * k, 5));
            all.add(x.stock(0, k));
            all.add((long) x.lost(0, 30 * k));
        }
        all.add((long) x.hooks());
        all.add((long) x.escorts(0));
        all.add(x.landed(3, 10, 500, 100, 10));
        all.add((long) x.sign(1, 1));
        return all;
    }

    private static NetsCut ready() {
        NetsCut x = new NetsCut();
        x.ship(0, 0, 1, 10);
        x.ship(1, 1, 2, 0);
        x.clock(5);
        x.report(0, 0, 4, 3, 3);
        x.report(1, 0, 5, 4, 3);
        x.chain(0, 5);
        x.point(0, 2, 2);
        x.chart(1, 1);
        Check.enact(x, 0, 5, "may cut;reach 4");
        x.act(0, 0, 1, 1, 5);
        x.hook(3, 1, 0, 2, -1, 8);
        x.office(0, 1000, 100);
        x.year(0, 1, 5);
        x.age(0, 100, 20, 3);
        x.town(0, 5, 5, 5);
        x.bar(0, 3, 4);
        x.term(2, 2);
        x.box(10, 1, 5);
        x.escort(2, 1);
        x.feed(1, 2, 3, 4, 5);
        return x;
    }

    private static void wrongCallsChangeNothing() {
        NetsCut x = ready();
        List<Long> before = state(x);
        x.clock(4);
        x.depth(0, 0, 1000);
        x.ship(0, 0, 0, 0);
        x.report(0, 0, 6, 0, 0);
        x.chain(2, 5);
        x.chain(0, 9000);
        x.point(0, 24, 0);
        x.chart(0, 4);
        x.end(21);
        x.statute(0, 4);
        x.statute(3, 5);
        x.act(0, 0, 0, 0, 6);
        x.hook(3, 1, 0, 2, 2, 8);
        x.hook(3, 1, 0, 2, -1, 1);
        x.hook(3, 1, 2, 2, -1, 8);
        x.office(0, 0, 1001);
        x.year(0, 1, -1);
        x.age(0, 0, 0, 1000);
        x.town(0, 0, 0, -1);
        x.bar(0, 0, 100);
        x.bar(0, 9, 8);
        x.term(0, 10000);
        x.box(0, 0, 100);
        x.escort(13, 0);
        CHECK.due("nothing has changed", state(x).equals(before), true);
    }
}
