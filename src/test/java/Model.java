import java.io.ByteArrayOutputStream;
import java.math.BigInteger;
import java.nio.charset.StandardCharsets;
import java.util.ArrayDeque;
import java.util.ArrayList;
import java.util.Arrays;
import java.util.Collections;
import java.util.Deque;
import java.util.HashMap;
import java.util.HashSet;
import java.util.LinkedHashMap;
import java.util.List;
import java.util.Map;
import java.util.Set;
import java.util.function.Supplier;

/** The document once more, written another way (every rat one by one, days as a tree), to be held against LastLayer. */
public final class Model {
    static final Set<String> WORDS = new HashSet<>(Arrays.asList(("rick, holds, layers, caps, side, weight, net, to, "
            + "dog, at, catches, tires, boy, reach, penny, corn, breed, cost, take, hour, last, gap, move, week, wind, "
            + "when, rats, off, tired, loop, end, stop").split(", ")));

    static final class Refused extends RuntimeException {
        private static final long serialVersionUID = 1L;
        final int status;

        Refused(int status) {
            super("status " + status, null, false, false);
            this.status = status;
        }
    }

    static final class Faulty extends RuntimeException {
        private static final long serialVersionUID = 1L;
        final int kind;
        final int place;

        Faulty(int kind, int place) {
            super("fault " + kind + " at " + place, null, false, false);
            this.kind = kind;
            this.place = place;
        }
    }

    static final class Rick {
        int holds;
        boolean caps;
        List<Integer> layers = new ArrayList<>();

        int all() {
            return layers.stream().mapToInt(Integer::intValue).sum();
        }

        Rick copy() {
            Rick r = new Rick();
            r.holds = holds;
            r.caps = caps;
            r.layers.addAll(layers);
            return r;
        }

        void breed(int hundredths) {
            layers.replaceAll(n -> Math.min(9999, n + (int) Math.floor(n * hundredths / 100.0 + 1e-9)));
        }
    }

    static final class Side {
        int weight;
        boolean net;
        int to = -1;
        int off;

        Side copy() {
            Side s = new Side();
            s.weight = weight;
            s.net = net;
            s.to = to;
            s.off = off;
            return s;
        }
    }

    static final class Hunter {
        int at;
        int power;
        int tires;
        int tails;
        int sinceRest;

        Hunter copy() {
            Hunter h = new Hunter();
            h.at = at;
            h.power = power;
            h.tires = tires;
            h.tails = tails;
            h.sinceRest = sinceRest;
            return h;
        }
    }

    /** A step of the days: its words, and for when and loop what stands inside. */
    static final class Step {
        final List<String> words = new ArrayList<>();
        List<Step> inside;
    }

    static final class World {
        Map<String, String> names = new LinkedHashMap<>();
        List<Rick> ricks = new ArrayList<>();
        List<Side> sides = new ArrayList<>();
        List<Hunter> dogs = new ArrayList<>();
        List<Hunter> boys = new ArrayList<>();
        Map<String, Integer> sums = new HashMap<>(Map.of("penny", 1, "corn", 1, "breed", 0, "cost", 0));
        int hand = -1;
        int netted;
        int off;
        int runs;
        int spent;
        List<Step> days;

        World copy() {
            World w = new World();
            w.names.putAll(names);
            ricks.forEach(r -> w.ricks.add(r.copy()));
            sides.forEach(s -> w.sides.add(s.copy()));
            dogs.forEach(d -> w.dogs.add(d.copy()));
            boys.forEach(b -> w.boys.add(b.copy()));
            w.sums.putAll(sums);
            w.hand = hand;
            w.netted = netted;
            w.off = off;
            w.runs = runs;
            w.spent = spent;
            w.days = days;
            return w;
        }

        int number(String name) {
            return Integer.parseInt(names.get(name).split(" ")[1]);
        }

        int tails() {
            return dogs.stream().mapToInt(d -> d.tails).sum() + boys.stream().mapToInt(b -> b.tails).sum();
        }

        int caught() {
            return tails() + netted;
        }

        /** How many go to each side; null if nowhere. */
        int[] split(int n) {
            int all = sides.stream().mapToInt(s -> s.weight).sum();
            if (all == 0) {
                return null;
            }
            int[] go = new int[sides.size()];
            int given = 0;
            for (int i = 0; i < go.length; i++) {
                go[i] = BigInteger.valueOf(n).multiply(BigInteger.valueOf(sides.get(i).weight))
                        .divide(BigInteger.valueOf(all)).intValue();
                given += go[i];
            }
            for (int i = 0; given < n; i++) {
                if (sides.get(i).weight != 0) {
                    go[i]++;
                    given++;
                }
            }
            return go;
        }

        /** One run; rats that come back are counted, layer is where they come back to. */
        int run(int n, boolean last, Rick from) {
            if (n == 0) {
                return 0;
            }
            runs++;
            int[] go = split(n);
            if (go == null) {
                off += n;
                return 0;
            }
            boolean anyGap = sides.stream().anyMatch(s -> !s.net);
            if (last && anyGap) {
                for (int i = 0; i < go.length; i++) {
                    if (sides.get(i).net) {
                        int t = i;
                        do {
                            t = t + 1 == go.length ? 0 : t + 1;
                        } while (sides.get(t).net);
                        go[t] += go[i];
                        go[i] = 0;
                    }
                }
            }
            int back = 0;
            for (int i = 0; i < go.length; i++) {
                if (sides.get(i).net) {
                    if (last) {
                        netted += go[i];
                    } else {
                        back += go[i];
                        if (from != null) {
                            from.layers.set(0, from.layers.get(0) + go[i]);
                        }
                    }
                } else {
                    atGap(i, go[i], last ? from : null);
                }
            }
            return back;
        }

        private void atGap(int side, int n, Rick own) {
            long boysThere = boys.stream().filter(b -> b.at == side).count();
            Map<Hunter, Integer> inThisRun = new HashMap<>();
            for (int rat = 0; rat < n; rat++) {
                Hunter by = null;
                for (Hunter d : dogs) {
                    if (by == null && d.at == side && inThisRun.getOrDefault(d, 0) < d.power - boysThere
                            && d.sinceRest < d.tires) {
                        by = d;
                    }
                }
                for (Hunter b : boys) {
                    if (by == null && b.at == side && inThisRun.getOrDefault(b, 0) < b.power) {
                        by = b;
                    }
                }
                if (by != null) {
                    inThisRun.merge(by, 1, Integer::sum);
                    by.tails++;
                    by.sinceRest++;
                } else {
                    getOff(sides.get(side), own);
                }
            }
        }

        private void getOff(Side side, Rick own) {
            off++;
            side.off++;
            if (side.to >= 0) {
                Rick to = ricks.get(side.to);
                int lowest = to.layers.size() - 1;
                if (to != own && lowest >= 0 && to.layers.get(lowest) < 9999) {
                    to.layers.set(lowest, to.layers.get(lowest) + 1);
                }
            }
        }

        int hour(int r) {
            Rick rick = ricks.get(r);
            int upper = rick.layers.remove(0);
            int now = Math.min(9999, upper + rick.layers.get(0));
            int run = Math.max(0, now - rick.holds);
            rick.layers.set(0, now - run);
            run(run, false, rick);
            return run;
        }

        int last(int r, int parts) {
            Rick rick = ricks.get(r);
            int all = rick.layers.remove(0);
            hand = -1;
            int[] each = new int[parts];
            for (int i = 0; i < all; i++) {
                each[i % parts]++;
            }
            for (int n : each) {
                run(n, true, rick);
            }
            return all;
        }

        void whole(int r, int parts) {
            while (ricks.get(r).layers.size() > 1) {
                hour(r);
            }
            last(r, parts);
        }

        void week() {
            for (int i = 0; i < ricks.size(); i++) {
                if (i != hand && !ricks.get(i).caps) {
                    ricks.get(i).breed(sums.get("breed"));
                }
            }
        }
    }

    // ---- reading

    static final class Token {
        String text;
        int place;
        boolean bad;
    }

    /** Tokens of a text with the faults of each; the end is an empty token. */
    static final class Reader {
        final List<Token> tokens = new ArrayList<>();
        int at;

        Reader(String text) {
            int i = 0;
            while (i < text.length()) {
                char c = text.charAt(i);
                if (c == ' ' || c == '\n') {
                    i++;
                    continue;
                }
                Token t = new Token();
                t.place = i;
                int j = i + 1;
                if (String.valueOf(c).matches("[a-z]")) {
                    while (j < text.length() && String.valueOf(text.charAt(j)).matches("[a-z]")) {
                        j++;
                    }
                } else if (String.valueOf(c).matches("[0-9]")) {
                    while (j < text.length() && String.valueOf(text.charAt(j)).matches("[0-9]")) {
                        j++;
                    }
                    t.bad = j - i > 4;
                } else {
                    t.bad = ";<>=".indexOf(c) < 0;
                }
                t.text = text.substring(i, j);
                tokens.add(t);
                i = j;
            }
            Token end = new Token();
            end.text = "";
            end.place = text.length();
            tokens.add(end);
        }

        String peek() {
            Token t = tokens.get(at);
            return t.bad ? "?" : t.text;
        }

        int place() {
            return tokens.get(at).place;
        }

        void fail(int kind) {
            throw new Faulty(tokens.get(at).bad ? 1 : kind, place());
        }

        boolean ended() {
            return peek().isEmpty();
        }

        String next() {
            String t = peek();
            at++;
            return t;
        }

        void expect(String word) {
            if (!peek().equals(word)) {
                fail(2);
            }
            at++;
        }

        int number(int least, int most) {
            if (!peek().matches("[0-9]+")) {
                fail(2);
            }
            int v = Integer.parseInt(peek());
            if (v < least || v > most) {
                fail(4);
            }
            at++;
            return v;
        }

        String name() {
            if (!peek().matches("[a-z]{1,8}") || WORDS.contains(peek())) {
                fail(2);
            }
            return peek();
        }

        String newName(World w) {
            if (w.names.containsKey(name())) {
                fail(3);
            }
            return next();
        }

        int known(World w, String kind) {
            if (!w.names.getOrDefault(name(), "").startsWith(kind + " ")) {
                fail(3);
            }
            return w.number(next());
        }
    }

    static World readYard(String text) {
        Reader r = new Reader(text);
        World w = new World();
        Set<String> told = new HashSet<>();
        while (!r.ended()) {
            String kind = r.peek();
            Map<String, List<?>> lists = Map.of("rick", w.ricks, "side", w.sides, "dog", w.dogs, "boy", w.boys);
            if (lists.containsKey(kind)) {
                if (lists.get(kind).size() == 4) {
                    r.fail(6);
                }
                r.next();
                String name = r.newName(w);
                readThing(r, w, kind);
                w.names.put(name, kind + " " + (lists.get(kind).size() - 1));
            } else if (w.sums.containsKey(kind)) {
                if (!told.add(kind)) {
                    r.fail(5);
                }
                r.next();
                w.sums.put(kind, r.number(0, Map.of("penny", 9, "corn", 9, "breed", 100, "cost", 999).get(kind)));
            } else {
                r.fail(2);
            }
            r.expect(";");
        }
        return w;
    }

    static void readThing(Reader r, World w, String kind) {
        if (kind.equals("rick")) {
            Rick rick = new Rick();
            r.expect("holds");
            rick.holds = r.number(0, 99);
            r.expect("layers");
            rick.layers.add(r.number(0, 99));
            while (r.peek().matches("[0-9]+")) {
                int here = r.at;
                int v = r.number(0, 99);
                if (rick.layers.size() == 8) {
                    r.at = here;
                    r.fail(6);
                }
                rick.layers.add(v);
            }
            if (r.peek().equals("caps")) {
                r.next();
                rick.caps = true;
            }
            w.ricks.add(rick);
        } else if (kind.equals("side")) {
            Side side = new Side();
            r.expect("weight");
            side.weight = r.number(0, 9);
            if (r.peek().equals("net")) {
                r.next();
                side.net = true;
            }
            if (r.peek().equals("to")) {
                r.next();
                side.to = r.known(w, "rick");
            }
            w.sides.add(side);
        } else {
            Hunter h = new Hunter();
            r.expect("at");
            h.at = r.known(w, "side");
            if (kind.equals("dog")) {
                r.expect("catches");
                h.power = r.number(1, 20);
                r.expect("tires");
                h.tires = r.number(1, 200);
                w.dogs.add(h);
            } else {
                r.expect("reach");
                h.power = r.number(0, 9);
                w.boys.add(h);
            }
        }
    }

    private int stepsRead;

    List<Step> readDays(String text) {
        Reader r = new Reader(text);
        stepsRead = 0;
        List<Step> steps = readSteps(r, 0);
        if (!r.ended()) {
            r.fail(2);
        }
        return steps;
    }

    private List<Step> readSteps(Reader r, int depth) {
        List<Step> steps = new ArrayList<>();
        while (!r.ended() && !r.peek().equals("end")) {
            String kind = r.peek();
            if (!Arrays.asList("take", "hour", "last", "net", "gap", "move", "week", "wind", "when", "loop", "stop")
                    .contains(kind)) {
                r.fail(2);
            }
            if (stepsRead == 30) {
                r.fail(6);
            }
            boolean block = kind.equals("when") || kind.equals("loop");
            if (block && depth == 3) {
                r.fail(7);
            }
            stepsRead++;
            Step step = new Step();
            step.words.add(r.next());
            readArguments(r, step, kind);
            r.expect(";");
            if (block) {
                step.inside = readSteps(r, depth + 1);
                r.expect("end");
                r.expect(";");
            }
            steps.add(step);
        }
        return steps;
    }

    private void readArguments(Reader r, Step step, String kind) {
        switch (kind) {
            case "take" -> step.words.add("" + r.known(world, "rick"));
            case "net", "gap" -> step.words.add("" + r.known(world, "side"));
            case "last" -> step.words.add("" + r.number(1, 20));
            case "week", "loop" -> step.words.add("" + r.number(1, 99));
            case "move" -> {
                step.words.add("" + r.known(world, "dog"));
                r.expect("to");
                step.words.add("" + r.known(world, "side"));
            }
            case "when" -> readTest(r, step);
            default -> { }
        }
    }

    private void readTest(Reader r, Step step) {
        String test = r.peek();
        if (!Arrays.asList("rats", "off", "tired").contains(test)) {
            r.fail(2);
        }
        step.words.add(r.next());
        if (test.equals("tired")) {
            step.words.add("" + r.known(world, "dog"));
            return;
        }
        step.words.add("" + (test.equals("rats") ? r.known(world, "rick") : 0));
        if (!Arrays.asList("<", ">", "=").contains(r.peek())) {
            r.fail(2);
        }
        step.words.add(r.next());
        step.words.add("" + r.number(0, 9999));
    }

    // ---- living

    static final class Stopped extends RuntimeException {
        private static final long serialVersionUID = 1L;

        Stopped() {
            super("stop", null, false, false);
        }
    }

    static final class Life {
        World w;
        int s;
        int steps;
        int missed;
        int hours;
        int left;
        int caught;
        int off;

        Life(World w, int seed) {
            this.w = w;
            s = seed;
            int c = w.caught();
            int o = w.off;
            try {
                go(w.days);
            } catch (Stopped e) {
                // a stop, or the 300
            }
            caught = w.caught() - c;
            off = w.off - o;
        }

        void go(List<Step> steps) {
            for (Step step : steps) {
                if (this.steps == 300) {
                    left = 1;
                    throw new Stopped();
                }
                this.steps++;
                one(step);
            }
        }

        int arg(Step step, int i) {
            return Integer.parseInt(step.words.get(i));
        }

        void one(Step step) {
            Rick hand = w.hand < 0 ? null : w.ricks.get(w.hand);
            boolean could = true;
            switch (step.words.get(0)) {
                case "stop":
                    throw new Stopped();
                case "take":
                    could = !w.ricks.get(arg(step, 1)).layers.isEmpty();
                    w.hand = could ? arg(step, 1) : w.hand;
                    break;
                case "hour":
                    could = hand != null && hand.layers.size() >= 2;
                    if (could) {
                        hours++;
                        w.hour(w.hand);
                    }
                    break;
                case "last":
                    could = hand != null && hand.layers.size() == 1;
                    if (could) {
                        hours++;
                        w.last(w.hand, arg(step, 1));
                    }
                    break;
                case "net":
                    could = !w.sides.get(arg(step, 1)).net;
                    w.sides.get(arg(step, 1)).net = true;
                    break;
                case "gap":
                    could = w.sides.get(arg(step, 1)).net;
                    w.sides.get(arg(step, 1)).net = false;
                    break;
                case "move":
                    w.dogs.get(arg(step, 1)).at = arg(step, 2);
                    break;
                case "week":
                    for (int i = 0; i < arg(step, 1); i++) {
                        w.week();
                    }
                    break;
                case "wind":
                    for (Side side : w.sides) {
                        s = (int) ((s * 2939L + 10631L) % 65536L);
                        side.weight = s / 8 % 10;
                    }
                    break;
                case "loop":
                    for (int i = 0; i < arg(step, 1); i++) {
                        go(step.inside);
                    }
                    break;
                default:
                    if (test(step)) {
                        go(step.inside);
                    }
                    break;
            }
            missed += could ? 0 : 1;
        }

        boolean test(Step step) {
            if (step.words.get(1).equals("tired")) {
                Hunter d = w.dogs.get(arg(step, 2));
                return d.sinceRest >= d.tires;
            }
            int have = step.words.get(1).equals("off") ? w.off : w.ricks.get(arg(step, 2)).all();
            int c = Integer.compare(have, arg(step, 4));
            return c == "<=>".indexOf(step.words.get(3)) - 1;
        }
    }

    // ---- the face

    private World world = new World();
    private final Deque<World> marks = new ArrayDeque<>();
    private final long[][] rows = new long[4][];
    private final int[] sorts = new int[4];
    private ByteArrayOutputStream tape = new ByteArrayOutputStream();
    private int status;
    private int faultKind = -1;
    private int faultPlace = -1;
    private BigInteger top = BigInteger.ZERO;
    private BigInteger bottom = BigInteger.ONE;
    private int netSet = -1;
    private List<Integer> places = List.of();
    private List<Integer> order = List.of();
    private Life life;

    private static void need(boolean holds, int status) {
        if (!holds) {
            throw new Refused(status);
        }
    }

    private static void between(long v, long least, long most) {
        need(v >= least && v <= most, 5);
    }

    private long ask(Supplier<Long> call) {
        try {
            long v = call.get();
            status = 0;
            return v;
        } catch (Refused e) {
            status = e.status;
            return -1;
        }
    }

    private int askInt(Supplier<Integer> call) {
        return (int) ask(() -> (long) call.get());
    }

    private boolean does(Runnable call) {
        return ask(() -> {
            call.run();
            return 1L;
        }) == 1;
    }

    private Rick rickOf(int r) {
        need(r >= 0 && r < world.ricks.size(), 2);
        return world.ricks.get(r);
    }

    private Side sideOf(int s) {
        need(s >= 0 && s < world.sides.size(), 2);
        return world.sides.get(s);
    }

    private Hunter dogOf(int d) {
        need(d >= 0 && d < world.dogs.size(), 2);
        return world.dogs.get(d);
    }

    private Hunter boyOf(int b) {
        need(b >= 0 && b < world.boys.size(), 2);
        return world.boys.get(b);
    }

    private long[] rowOf(int t) {
        need(t >= 0 && t < 4, 1);
        need(rows[t] != null, 3);
        return rows[t];
    }

    private long cut(int t, long v) {
        int bits = 8 << sorts[t];
        return v << 64 - bits >> 64 - bits;
    }

    private void fraction(long a, long b) {
        BigInteger g = BigInteger.valueOf(a).gcd(BigInteger.valueOf(b));
        top = BigInteger.valueOf(a).divide(g);
        bottom = BigInteger.valueOf(b).divide(g);
    }

    public int status() {
        return status;
    }

    public long top() {
        return top.longValueExact();
    }

    public long bottom() {
        return bottom.longValueExact();
    }

    public boolean tray(int tray, int sort, int many) {
        return does(() -> {
            need(tray >= 0 && tray < 4 && sort >= 0 && sort < 4, 1);
            need(many <= 60, 5);
            need(many >= 0, 6);
            rows[tray] = new long[many];
            sorts[tray] = sort;
        });
    }

    public boolean write(int tray, int place, long v) {
        return does(() -> {
            rowOf(tray);
            need(place >= 0 && place < rows[tray].length, 4);
            rows[tray][place] = cut(tray, v);
        });
    }

    public long read(int tray, int place) {
        return ask(() -> {
            rowOf(tray);
            need(place >= 0 && place < rows[tray].length, 4);
            return rows[tray][place];
        });
    }

    public boolean pour(int tray, int i, int to, int j, int many) {
        return does(() -> {
            need(tray >= 0 && tray < 4 && to >= 0 && to < 4, 1);
            rowOf(tray);
            rowOf(to);
            need(sorts[tray] == sorts[to], 11);
            need(many >= 0, 6);
            need(i >= 0 && j >= 0 && (long) i + many <= rows[tray].length && (long) j + many <= rows[to].length, 4);
            long[] were = rows[tray].clone();
            for (int k = 0; k < many; k++) {
                rows[to][j + k] = were[i + k];
            }
        });
    }

    public int feed(int a, int b, int c, int d, int e) {
        if (tape.size() + 20 > 900) {
            return -1;
        }
        for (int v : new int[] {a, b, c, d, e}) {
            tape.write(v >>> 24);
            tape.write(v >>> 16);
            tape.write(v >>> 8);
            tape.write(v);
        }
        return tape.size();
    }

    private int text(int n, int most, java.util.function.Function<String, Integer> reads) {
        return askInt(() -> {
            need(n >= 0 && n <= most && n <= tape.size(), 5);
            String text = new String(tape.toByteArray(), 0, n, StandardCharsets.ISO_8859_1);
            tape = new ByteArrayOutputStream();
            try {
                faultKind = 0;
                faultPlace = -1;
                return reads.apply(text);
            } catch (Faulty e) {
                faultKind = e.kind;
                faultPlace = e.place;
                throw new Refused(10);
            }
        });
    }

    public int yard(int n) {
        return text(n, 900, text -> {
            world = readYard(text);
            return world.ricks.size();
        });
    }

    public int days(int n) {
        return text(n, 300, text -> {
            world.days = readDays(text);
            return stepsRead;
        });
    }

    public int fault(int what) {
        return what == 0 ? faultKind : what == 1 ? faultPlace : -1;
    }

    public int many(int what) {
        return askInt(() -> {
            between(what, 0, 11);
            need(what != 8 || world.hand >= 0, 8);
            return Arrays.asList(world.ricks.size(), world.sides.size(), world.dogs.size(), world.boys.size(),
                    world.sums.get("penny"), world.sums.get("corn"), world.sums.get("breed"), world.sums.get("cost"),
                    world.hand, world.caught(), world.off, world.runs).get(what);
        });
    }

    public int rick(int rick, int what) {
        return askInt(() -> {
            Rick r = rickOf(rick);
            between(what, 0, 3);
            return new int[] {r.holds, r.layers.size(), r.all(), r.caps ? 1 : 0}[what];
        });
    }

    public int layer(int rick, int k) {
        return askInt(() -> {
            List<Integer> layers = rickOf(rick).layers;
            need(k >= 0 && k < layers.size(), 8);
            return layers.get(k);
        });
    }

    public int side(int side, int what) {
        return askInt(() -> {
            Side s = sideOf(side);
            between(what, 0, 3);
            need(what != 2 || s.to >= 0, 8);
            return new int[] {s.weight, s.net ? 1 : 0, s.to, s.off}[what];
        });
    }

    public int dog(int dog, int what) {
        return askInt(() -> {
            Hunter d = dogOf(dog);
            between(what, 0, 3);
            return new int[] {d.at, d.power, d.tires, d.tails}[what];
        });
    }

    public int boy(int boy, int what) {
        return askInt(() -> {
            Hunter b = boyOf(boy);
            between(what, 0, 2);
            return new int[] {b.at, b.power, b.tails}[what];
        });
    }

    public int netted() {
        return askInt(() -> world.netted);
    }

    public int pay() {
        return askInt(() -> world.tails() * world.sums.get("penny"));
    }

    public boolean share() {
        return does(() -> {
            need(world.caught() + world.off > 0, 8);
            fraction(world.caught(), world.caught() + world.off);
        });
    }

    public int copyLayers(int rick, int tray) {
        return askInt(() -> {
            long[] row = rowOf(tray);
            List<Integer> layers = rickOf(rick).layers;
            need(layers.size() <= row.length, 4);
            for (int i = 0; i < layers.size(); i++) {
                row[i] = cut(tray, layers.get(i));
            }
            return layers.size();
        });
    }

    public int take(int rick) {
        return askInt(() -> {
            need(!rickOf(rick).layers.isEmpty(), 9);
            world.hand = rick;
            return rickOf(rick).layers.size();
        });
    }

    public int hour() {
        return askInt(() -> {
            need(world.hand >= 0, 8);
            need(world.ricks.get(world.hand).layers.size() > 1, 9);
            return world.hour(world.hand);
        });
    }

    public int last(int parts) {
        return askInt(() -> {
            between(parts, 1, 20);
            need(world.hand >= 0, 8);
            need(world.ricks.get(world.hand).layers.size() == 1, 9);
            return world.last(world.hand, parts);
        });
    }

    public boolean net(int side) {
        return does(() -> {
            need(!sideOf(side).net, 9);
            sideOf(side).net = true;
        });
    }

    public boolean gap(int side) {
        return does(() -> {
            need(sideOf(side).net, 9);
            sideOf(side).net = false;
        });
    }

    public boolean move(int dog, int side) {
        return does(() -> {
            sideOf(side);
            dogOf(dog).at = side;
        });
    }

    public boolean send(int boy, int side) {
        return does(() -> {
            sideOf(side);
            boyOf(boy).at = side;
        });
    }

    public boolean lean(int side, int weight) {
        return does(() -> {
            sideOf(side);
            between(weight, 0, 9);
            sideOf(side).weight = weight;
        });
    }

    public int rest() {
        return askInt(() -> {
            int were = (int) world.dogs.stream().filter(d -> d.sinceRest >= d.tires).count();
            world.dogs.forEach(d -> d.sinceRest = 0);
            return were;
        });
    }

    public int week(int weeks) {
        return askInt(() -> {
            between(weeks, 1, 99);
            for (int i = 0; i < weeks; i++) {
                world.week();
            }
            return world.ricks.stream().mapToInt(Rick::all).sum();
        });
    }

    public int toSide(int n, int side) {
        return askInt(() -> {
            sideOf(side);
            between(n, 0, 9999);
            int[] go = world.split(n);
            return go == null ? 0 : go[side];
        });
    }

    public int run(int n, boolean last, int what) {
        return askInt(() -> {
            between(n, 0, 999);
            between(what, 0, 2);
            World w = world.copy();
            int back = w.run(n, last, null);
            return new int[] {w.caught() - world.caught(), w.off - world.off, back}[what];
        });
    }

    private void needWhole(int rick, int parts) {
        need(!rickOf(rick).layers.isEmpty(), 9);
        between(parts, 1, 20);
    }

    private int offWith(java.util.function.Consumer<World> change, int rick, int parts) {
        World w = world.copy();
        change.accept(w);
        w.whole(rick, parts);
        return w.off - world.off;
    }

    public int whole(int rick, int parts, int what) {
        return askInt(() -> {
            needWhole(rick, parts);
            between(what, 0, 2);
            World w = world.copy();
            w.whole(rick, parts);
            return new int[] {w.caught() - world.caught(), w.off - world.off, w.runs - world.runs}[what];
        });
    }

    public int bestNets(int rick, int parts) {
        return askInt(() -> {
            needWhole(rick, parts);
            long best = Long.MAX_VALUE;
            for (int set = 0; set < 1 << world.sides.size(); set++) {
                int nets = set;
                long off = offWith(w -> {
                    for (int i = 0; i < w.sides.size(); i++) {
                        w.sides.get(i).net = (nets & 1 << i) != 0;
                    }
                }, rick, parts);
                best = Math.min(best, off * 10000 + Integer.bitCount(set) * 100 + set);
            }
            netSet = (int) (best % 100);
            return (int) (best / 10000);
        });
    }

    public int netSet() {
        return askInt(() -> {
            need(netSet >= 0, 8);
            return netSet;
        });
    }

    private void allPlaces(List<Integer> so, List<List<Integer>> all) {
        if (so.size() == world.dogs.size()) {
            all.add(new ArrayList<>(so));
            return;
        }
        for (int i = 0; i < world.sides.size(); i++) {
            so.add(i);
            allPlaces(so, all);
            so.remove(so.size() - 1);
        }
    }

    public int bestPlaces(int rick, int parts) {
        return askInt(() -> {
            needWhole(rick, parts);
            need(!world.sides.isEmpty() && !world.dogs.isEmpty(), 8);
            List<List<Integer>> all = new ArrayList<>();
            allPlaces(new ArrayList<>(), all);
            int best = Integer.MAX_VALUE;
            for (List<Integer> way : all) {
                int off = offWith(w -> {
                    for (int i = 0; i < way.size(); i++) {
                        w.dogs.get(i).at = way.get(i);
                    }
                }, rick, parts);
                if (off < best) {
                    best = off;
                    places = way;
                }
            }
            return best;
        });
    }

    public int placeAt(int dog) {
        return askInt(() -> {
            need(dog >= 0 && dog < places.size(), 8);
            return places.get(dog);
        });
    }

    private void allOrders(List<Integer> so, List<List<Integer>> all) {
        boolean more = false;
        for (int i = 0; i < world.ricks.size(); i++) {
            if (!so.contains(i) && !world.ricks.get(i).layers.isEmpty()) {
                more = true;
                so.add(i);
                allOrders(so, all);
                so.remove(so.size() - 1);
            }
        }
        if (!more) {
            all.add(new ArrayList<>(so));
        }
    }

    public int bestOrder(int parts) {
        return askInt(() -> {
            between(parts, 1, 20);
            need(world.ricks.stream().anyMatch(r -> !r.layers.isEmpty()), 8);
            List<List<Integer>> all = new ArrayList<>();
            allOrders(new ArrayList<>(), all);
            Collections.reverse(all);
            int best = -1;
            for (List<Integer> way : all) {
                World w = world.copy();
                way.forEach(r -> w.whole(r, parts));
                if (w.caught() - world.caught() >= best) {
                    best = w.caught() - world.caught();
                    order = way;
                }
            }
            return best;
        });
    }

    public int orderAt(int k) {
        return askInt(() -> {
            need(k >= 0 && k < order.size(), 8);
            return order.get(k);
        });
    }

    public int slowly(int rick) {
        return askInt(() -> {
            needWhole(rick, 1);
            int best = 20;
            for (int p = 20; p >= 1; p--) {
                if (offWith(w -> { }, rick, p) <= offWith(w -> { }, rick, best)) {
                    best = p;
                }
            }
            return best;
        });
    }

    public int dearest(int rick, int parts) {
        return askInt(() -> {
            needWhole(rick, parts);
            need(!world.dogs.isEmpty(), 8);
            int best = 0;
            int most = Integer.MIN_VALUE;
            int with = offWith(w -> { }, rick, parts);
            for (int d = 0; d < world.dogs.size(); d++) {
                int dog = d;
                int more = offWith(w -> w.dogs.remove(dog), rick, parts) - with;
                if (more > most) {
                    most = more;
                    best = d;
                }
            }
            return best;
        });
    }

    public int proudest() {
        return askInt(() -> {
            need(!world.dogs.isEmpty(), 8);
            int most = world.dogs.stream().mapToInt(d -> d.tails).max().getAsInt();
            int i = 0;
            while (world.dogs.get(i).tails != most) {
                i++;
            }
            return i;
        });
    }

    public int tired() {
        return askInt(() -> {
            int set = 0;
            for (int i = 0; i < world.dogs.size(); i++) {
                set += world.dogs.get(i).sinceRest == world.dogs.get(i).tires ? 1 << i : 0;
            }
            return set;
        });
    }

    private World after(int weeks) {
        World w = world.copy();
        for (int i = 0; i < weeks; i++) {
            w.week();
        }
        return w;
    }

    public int later(int rick, int weeks) {
        return askInt(() -> {
            rickOf(rick);
            between(weeks, 0, 999);
            return after(weeks).ricks.get(rick).all();
        });
    }

    public int backTo(int rick, int n) {
        return askInt(() -> {
            rickOf(rick);
            between(n, 0, 9999);
            World w = world.copy();
            for (int i = 0; i <= 999; i++) {
                if (w.ricks.get(rick).all() >= n) {
                    return i;
                }
                w.week();
            }
            throw new Refused(8);
        });
    }

    public long eaten(int rick, int weeks) {
        return ask(() -> {
            rickOf(rick);
            between(weeks, 0, 999);
            return eatenBy(rick, weeks);
        });
    }

    private long eatenBy(int rick, int weeks) {
        World w = world.copy();
        long all = 0;
        for (int i = 0; i < weeks; i++) {
            all += w.ricks.get(rick).all() * (long) w.sums.get("corn");
            w.week();
        }
        return all;
    }

    public int capsPay(int rick) {
        return askInt(() -> {
            rickOf(rick);
            int cost = world.sums.get("cost");
            need(eatenBy(rick, 999) >= cost, 8);
            need(!rickOf(rick).caps, 9);
            int weeks = 0;
            while (eatenBy(rick, weeks) < cost) {
                weeks++;
            }
            return weeks;
        });
    }

    public int cap(int rick) {
        return askInt(() -> {
            need(!rickOf(rick).caps, 9);
            rickOf(rick).caps = true;
            return world.spent += world.sums.get("cost");
        });
    }

    public int tells(int rick, int tray, int n, int what) {
        return askInt(() -> {
            need(tray >= 0 && tray < 4, 1);
            Rick r = rickOf(rick);
            long[] row = rowOf(tray);
            need(n <= row.length, 4);
            between(n, 1, r.layers.size() - 1);
            between(what, 0, 2);
            for (int i = 0; i < n; i++) {
                between(row[i], 0, 9999);
            }
            List<Integer> fit = new ArrayList<>();
            for (int h = 0; h < 100; h++) {
                World w = new World();
                w.ricks.add(r.copy());
                w.ricks.get(0).holds = h;
                boolean so = true;
                for (int i = 0; i < n; i++) {
                    so &= w.hour(0) == row[i];
                }
                if (so) {
                    fit.add(h);
                }
            }
            need(!fit.isEmpty(), 8);
            return what == 0 ? fit.get(0) : what == 1 ? fit.get(fit.size() - 1) : fit.size();
        });
    }

    public int live(int seed) {
        return askInt(() -> {
            between(seed, 0, 9999);
            need(world.days != null, 8);
            life = new Life(world, seed);
            return life.steps;
        });
    }

    public int lived(int what) {
        return askInt(() -> {
            between(what, 0, 4);
            need(life != null, 8);
            return new int[] {life.missed, life.hours, life.caught, life.off, life.left}[what];
        });
    }

    public boolean mean(int seed, int many) {
        return does(() -> {
            between(seed, 0, 9999);
            between(many, 1, 20);
            between(seed + many - 1, 0, 9999);
            need(world.days != null, 8);
            long all = 0;
            for (int i = 0; i < many; i++) {
                all += new Life(world.copy(), seed + i).caught;
            }
            fraction(all, many);
        });
    }

    public int mark() {
        return askInt(() -> {
            need(marks.size() < 3, 7);
            marks.push(world.copy());
            return marks.size();
        });
    }

    public int back() {
        return askInt(() -> {
            need(!marks.isEmpty(), 8);
            world = marks.pop();
            return marks.size();
        });
    }
}
