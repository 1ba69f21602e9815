import java.nio.charset.StandardCharsets;
import java.util.function.BooleanSupplier;
import java.util.function.Consumer;
import java.util.function.LongSupplier;

/** What the tests share: one object under test, its calls' answers against those that are due, texts by feed(). */
final class Due {
    /** The yard of the shared tests: three ricks, three sides, two dogs, a boy. */
    static final String FARM = "rick oat holds 10 layers 4 6 20;rick hay holds 5 layers 3 9;"
            + "rick rye holds 99 layers 7 caps;side lee weight 3;side ditch weight 2 to hay;"
            + "side wagon weight 1 net;dog nip at lee catches 4 tires 10;dog big at ditch catches 2 tires 100;"
            + "boy tom at lee reach 2;penny 2;corn 3;breed 50;cost 100;";

    private static int asked = 0;
    private static int wrong = 0;

    LastLayer x = new LastLayer();
    private final String about;

    Due(String about) {
        this.about = about;
    }

    static Due farm(String about) {
        Due due = new Due(about);
        due.takeYard(FARM, 3);
        return due;
    }

    /** One sentence of the document that names an edge, on a new object. */
    static void edge(String sentence, Consumer<Due> test) {
        test.accept(new Due(sentence));
    }

    /** The same with the farm. */
    static void farmEdge(String sentence, Consumer<Due> test) {
        test.accept(farm(sentence));
    }

    void is(String what, long got, long want) {
        asked++;
        if (got != want) {
            wrong++;
            System.out.println(about + ": " + what + " answered " + got + ", due is " + want);
        }
    }

    /** An answer with STATUS 0. */
    void good(String what, long got, long want) {
        is(what, got, want);
        is("status() behind " + what, x.status(), 0);
    }

    void good(String what, boolean got) {
        good(what, got ? 1 : 0, 1);
    }

    /** NONE with a STATUS. */
    void bad(String what, long got, int status) {
        is(what, got, LastLayer.NONE);
        is("status() behind " + what, x.status(), status);
    }

    void bad(String what, boolean got, int status) {
        is(what, got ? 1 : 0, 0);
        is("status() behind " + what, x.status(), status);
    }

    /** NONE with a STATUS, and nothing is changed by it. */
    void refused(String what, int status, LongSupplier call) {
        String before = State.of(x);
        int fault = x.fault(0);
        int place = x.fault(1);
        bad(what, call.getAsLong(), status);
        is("nothing is changed by " + what, State.of(x).equals(before) ? 1 : 0, 1);
        is("fault(0) behind " + what, x.fault(0), fault);
        is("fault(1) behind " + what, x.fault(1), place);
    }

    /** false with a STATUS, and nothing is changed by it. */
    void denied(String what, int status, BooleanSupplier call) {
        refused(what, status, () -> call.getAsBoolean() ? 1 : LastLayer.NONE);
    }

    void fraction(long top, long bottom) {
        is("top()", x.top(), top);
        is("bottom()", x.bottom(), bottom);
    }

    /** Feeds a text, padded with blanks to twenty bytes at a time; answers its length. */
    static int feed(LastLayer x, String text) {
        byte[] bytes = text.getBytes(StandardCharsets.ISO_8859_1);
        int[] v = new int[5];
        for (int i = 0; i < bytes.length; i += 20) {
            for (int k = 0; k < 5; k++) {
                v[k] = 0;
                for (int b = 0; b < 4; b++) {
                    int at = i + 4 * k + b;
                    v[k] = v[k] << 8 | (at < bytes.length ? bytes[at] & 255 : 32);
                }
            }
            x.feed(v[0], v[1], v[2], v[3], v[4]);
        }
        return bytes.length;
    }

    void takeYard(String text, int ricks) {
        good("yard of " + text, x.yard(feed(x, text)), ricks);
        is("fault(0)", x.fault(0), 0);
        is("fault(1)", x.fault(1), LastLayer.NONE);
    }

    void takeDays(String text, int steps) {
        good("days of " + text, x.days(feed(x, text)), steps);
        is("fault(0)", x.fault(0), 0);
        is("fault(1)", x.fault(1), LastLayer.NONE);
    }

    void refuseYard(String text, int fault, int place) {
        bad("yard of " + text, x.yard(feed(x, text)), 10);
        is("fault(0) of " + text, x.fault(0), fault);
        is("fault(1) of " + text, x.fault(1), place);
    }

    void refuseDays(String text, int fault, int place) {
        bad("days of " + text, x.days(feed(x, text)), 10);
        is("fault(0) of " + text, x.fault(0), fault);
        is("fault(1) of " + text, x.fault(1), place);
    }

    static void end() {
        System.out.println(wrong == 0 ? asked + " answers are as due" : wrong + " answers are not as due");
        if (wrong != 0) {
            System.exit(1);
        }
    }
}
