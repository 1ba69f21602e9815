import java.lang.reflect.InvocationTargetException;
import java.lang.reflect.Method;
import java.lang.reflect.Modifier;
import java.util.ArrayList;
import java.util.Comparator;
import java.util.List;
import java.util.Random;

/** Any call with any numbers, in many states: none throws, a refused one changes nothing, two objects answer alike. */
public final class AnyCallTest {
    private static final int[] EDGES = {0, 1, 2, 3, 4, 5, 7, 8, 9, 11, 12, 20, 21, 60, 61, 99, 100, 200, 300, 301, 900,
        901, 999, 1000, 9999, 10000, 65536, Integer.MAX_VALUE, Integer.MAX_VALUE - 1, Integer.MIN_VALUE,
        Integer.MIN_VALUE + 1, -1, -2, -3, -60};
    private static int wrong = 0;

    private static void check(boolean holds, String what) {
        if (!holds) {
            wrong++;
            if (wrong < 20) {
                System.out.println(what);
            }
        }
    }

    private static Object edge(Random random, Class<?> type) {
        if (type == boolean.class) {
            return random.nextBoolean();
        }
        int v = EDGES[random.nextInt(random.nextBoolean() ? 4 : EDGES.length)];
        if (type == long.class) {
            return random.nextBoolean() ? (long) v : random.nextLong();
        }
        return v;
    }

    private static void run(int seed, List<Method> methods) throws IllegalAccessException {
        Random random = new Random(seed);
        Farmer farmer = new Farmer(random);
        LastLayer x = new LastLayer();
        LastLayer twin = new LastLayer();
        for (int i = 0; i < 60; i++) {
            if (i % 20 == 0 || i % 7 == 0) {
                String text = farmer.slip(i % 20 == 0 ? farmer.yard() : farmer.days(), 5);
                int n = Due.feed(x, text);
                Due.feed(twin, text);
                boolean same = i % 20 == 0 ? x.yard(n) == twin.yard(n) : x.days(n) == twin.days(n);
                check(same, "run " + seed + ": two ways to take " + text);
            }
            Method method = methods.get(random.nextInt(methods.size()));
            Object[] args = new Object[method.getParameterCount()];
            for (int k = 0; k < args.length; k++) {
                args[k] = edge(random, method.getParameterTypes()[k]);
            }
            ask(x, twin, method, args, seed);
        }
    }

    private static void ask(LastLayer x, LastLayer twin, Method method, Object[] args, int seed)
            throws IllegalAccessException {
        String call = "run " + seed + ": " + method.getName() + java.util.Arrays.toString(args);
        try {
            String before = State.of(x);
            check(before.equals(State.of(twin)), call + ": the two are unlike ahead of it");
            Object got = method.invoke(x, args);
            int status = x.status();
            check(got.equals(method.invoke(twin, args)) && twin.status() == status, call + " is answered in two ways");
            boolean none = got.equals(-1) || got.equals(-1L) || got.equals(false);
            boolean hasStatus = !List.of("feed", "status", "top", "bottom", "fault").contains(method.getName());
            boolean refused = hasStatus && status != 0;
            check(!refused || none, call + " has STATUS " + status + " but answers");
            check(!refused || State.of(x).equals(before), call + " has STATUS " + status + " but changes something");
        } catch (InvocationTargetException e) {
            check(false, call + " throws " + e.getCause());
        }
    }

    public static void main(String[] args) throws IllegalAccessException {
        List<Method> methods = new ArrayList<>();
        for (Method m : LastLayer.class.getDeclaredMethods()) {
            if (Modifier.isPublic(m.getModifiers())) {
                methods.add(m);
            }
        }
        methods.sort(Comparator.comparing(Method::getName));
        for (int seed = 0; seed < 3000; seed++) {
            run(seed, methods);
        }
        System.out.println(wrong == 0 ? "no call throws" : wrong + " calls are wrong");
        System.exit(wrong == 0 ? 0 : 1);
    }
}
