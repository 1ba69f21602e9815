import java.lang.reflect.InvocationTargetException;
import java.lang.reflect.Method;
import java.nio.charset.StandardCharsets;
import java.util.ArrayList;
import java.util.Arrays;
import java.util.Comparator;
import java.util.List;
import java.util.Random;

/** Made-up runs of calls: each answer, STATUS and FRACTION must be that of the Model. */
public final class ModelTest {
    private static final int RUNS = 1500;
    private static final int CALLS = 420;
    private final Random random;
    private final Farmer farmer;
    private final LastLayer x = new LastLayer();
    private final Model model = new Model();
    private final List<String> calls = new ArrayList<>();
    private static final int[] answered = new int[100];
    private static final List<Method> METHODS = new ArrayList<>();

    private ModelTest(int seed) {
        random = new Random(seed);
        farmer = new Farmer(random);
    }

    private static Object call(Object on, Method like, Object... args) throws ReflectiveOperationException {
        return on.getClass().getMethod(like.getName(), like.getParameterTypes()).invoke(on, args);
    }

    private boolean same(Method method, Object... args) throws ReflectiveOperationException {
        Object got;
        try {
            got = call(x, method, args);
        } catch (InvocationTargetException e) {
            got = e.getCause().toString();
        }
        Object want = call(model, method, args);
        calls.add(method.getName() + Arrays.toString(args) + " answered " + got + " (" + x.status() + ")");
        if (got.equals(want) && x.status() == model.status() && x.top() == model.top() && x.bottom() == model.bottom()
                && x.fault(0) == model.fault(0) && x.fault(1) == model.fault(1)) {
            if (model.status() == 0) {
                answered[METHODS.indexOf(method)]++;
            }
            return true;
        }
        calls.add("due is " + want + " (" + model.status() + "), fraction " + model.top() + "/" + model.bottom()
                + ", fault " + model.fault(0) + " at " + model.fault(1) + ", not " + x.fault(0) + " at " + x.fault(1));
        return false;
    }

    private Object argument(Method method, int i) {
        Class<?> type = method.getParameterTypes()[i];
        if (type == boolean.class) {
            return random.nextBoolean();
        }
        if (type == long.class) {
            return random.nextInt(3) == 0 ? random.nextLong() : (long) random.nextInt(40);
        }
        int[] most = {2, 3, 4, 5, 12, 21, 100, 1000, 10001, 65};
        int usual = switch (method.getName()) {
            case "tray" -> i == 2 ? 65 : 4;
            case "layer", "orderAt", "placeAt" -> 4;
            case "whole", "bestNets", "bestPlaces", "dearest" -> i == 1 ? 21 : 4;
            case "last", "bestOrder" -> 21;
            case "week" -> 4;
            case "later", "eaten" -> i == 1 ? 1002 : 4;
            case "backTo" -> i == 1 ? 200 : 4;
            case "run", "toSide" -> i == 0 ? 200 : 4;
            case "live" -> 10001;
            case "mean" -> i == 0 ? 10001 : 21;
            case "write", "read", "pour" -> 5;
            case "tells" -> i == 2 ? 8 : 4;
            case "lean" -> i == 1 ? 11 : 4;
            case "many" -> 13;
            default -> 4;
        };
        int k = random.nextInt(60);
        if (k == 0) {
            return new int[] {Integer.MIN_VALUE, Integer.MAX_VALUE, -1, -2}[random.nextInt(4)];
        }
        return random.nextInt(k < 4 ? most[random.nextInt(most.length)] : usual);
    }

    private boolean feed(String text) throws ReflectiveOperationException {
        byte[] bytes = text.getBytes(StandardCharsets.ISO_8859_1);
        Method feed = LastLayer.class.getMethod("feed", int.class, int.class, int.class, int.class, int.class);
        for (int i = 0; i < bytes.length; i += 20) {
            Object[] v = new Object[5];
            for (int k = 0; k < 5; k++) {
                int four = 0;
                for (int b = 0; b < 4; b++) {
                    int at = i + 4 * k + b;
                    four = four << 8 | (at < bytes.length ? bytes[at] & 255 : random.nextInt(256));
                }
                v[k] = four;
            }
            if (!same(feed, v)) {
                return false;
            }
        }
        return true;
    }

    private boolean text(String method, String text) throws ReflectiveOperationException {
        if (!feed(text)) {
            return false;
        }
        calls.add("TEXT " + text);
        int n = random.nextInt(30) == 0 ? random.nextInt(1000) - 20 : text.length();
        return same(LastLayer.class.getMethod(method, int.class), n);
    }

    /** The numbers that the next hours would bring, so that tells() has something to find. */
    private boolean told() throws ReflectiveOperationException {
        int rick = random.nextInt(4);
        int holds = random.nextInt(60);
        Method tray = LastLayer.class.getMethod("tray", int.class, int.class, int.class);
        Method write = LastLayer.class.getMethod("write", int.class, int.class, long.class);
        Method tells = LastLayer.class.getMethod("tells", int.class, int.class, int.class, int.class);
        if (!same(tray, 1, 1 + random.nextInt(3), 8)) {
            return false;
        }
        int down = x.layer(rick, 0);
        for (int i = 0; i < 7 && x.layer(rick, i + 1) >= 0; i++) {
            down += x.layer(rick, i + 1);
            if (!same(write, 1, i, (long) Math.max(0, down - holds))) {
                return false;
            }
            down = Math.min(down, holds);
        }
        int n = 1 + random.nextInt(Math.max(1, x.rick(rick, 1)));
        model.layer(0, 0);
        return same(tells, rick, 1, n, 0) && same(tells, rick, 1, n, 1) && same(tells, rick, 1, n, 2);
    }

    private boolean someCall() throws ReflectiveOperationException {
        int k = random.nextInt(100);
        if (k == 0) {
            return text("yard", farmer.slip(farmer.yard(), 3));
        }
        if (k < 4) {
            return text("days", farmer.slip(farmer.days(), 4));
        }
        if (k < 6) {
            return told();
        }
        Method method = METHODS.get(random.nextInt(METHODS.size()));
        if (method.getName().equals("yard") || method.getName().equals("days") && random.nextInt(4) != 0) {
            return true;
        }
        Object[] args = new Object[method.getParameterCount()];
        for (int i = 0; i < args.length; i++) {
            args[i] = argument(method, i);
        }
        return same(method, args);
    }

    private boolean run() throws ReflectiveOperationException {
        for (int i = 0; i < 4 && x.many(0) + model.many(0) == 0; i++) {
            if (!text("yard", farmer.yard())) {
                return false;
            }
        }
        while (calls.size() < CALLS) {
            if (!someCall()) {
                return false;
            }
        }
        return true;
    }

    public static void main(String[] args) throws ReflectiveOperationException {
        for (Method m : LastLayer.class.getDeclaredMethods()) {
            if (java.lang.reflect.Modifier.isPublic(m.getModifiers())) {
                METHODS.add(m);
            }
        }
        METHODS.sort(Comparator.comparing(Method::getName));
        int from = args.length > 1 ? Integer.parseInt(args[1]) : 0;
        int runs = args.length > 2 ? Integer.parseInt(args[2]) : RUNS;
        for (int seed = from; seed < from + runs; seed++) {
            ModelTest test = new ModelTest(seed);
            if (!test.run()) {
                System.out.println("made-up run " + seed + ":");
                test.calls.forEach(System.out::println);
                System.exit(1);
            }
        }
        int seldom = 0;
        for (int i = 0; i < METHODS.size(); i++) {
            if (answered[i] < runs / 20) {
                System.out.println(METHODS.get(i).getName() + " was good " + answered[i] + " times only");
                seldom++;
            }
        }
        System.out.println(runs + " made-up runs are as the model's");
        System.exit(seldom == 0 ? 0 : 1);
    }
}
