import java.nio.charset.StandardCharsets;

/** What the tests share: one object under test, its calls' answers against those that are due, texts by feed(). */
final class Due {
    /** The yard of the shared tests: three ricks, three sides, two dogs, a boy. */
    static final String FARM = "rick oat holds 10 layers 4 6 20;rick hay holds 5 layers 3 9;"
            + "rick rye holds 99 layers 7 caps;side lee weight 3;side ditch weight 2 to hay;"
            + "side wagon weight 1 net;dog nip at lee catches 4 tires 10;dog big at ditch catches 2 tires 100;"
            + "boy tom at lee reach 2;penny 2;corn 3;breed 50;cost 100;";

    private static int asked = 0;
    private static int wrong = 0;

    LastLayer x = new LastLayer();
    private final String about;

    Due(String about) {
        this.about = about;
    }

    static Due farm(String about) {
        Due due = new Due(about);
        due.takeYard(FARM, 3);
        return due;
    }

    void is(String what, long got, long want) {
        asked++;
        if (got != want) {
            wrong++;
            System.out.println(about + ": " + what + " answered " + got + ", due is " + want);
        }
    }

    /** An answer with STATUS 0. */
    void good(String what, long got, long want) {
        is(what, got, want);
        is("status() behind " + what, x.status(), 0);
    }

    void good(String what, boolean got) {
        good(what, got ? 1 : 0, 1);
    }

    /** NONE with a STATUS. */
    void bad(String what, long got, int status) {
        is(what, got, LastLayer.NONE);
        is("status() behind " + what, x.status(), status);
    }

    void bad(String what, boolean got, int status) {
        is(what, got ? 1 : 0, 0);
        is("status() behind " + what, x.status(), status);
    }

    void fraction(long top, long bottom) {
        is("top()", x.top(), top);
        is("bottom()", x.bottom(), bottom);
    }

    /** Feeds a text, padded with blanks to twenty bytes at a time; answers its length. */
    static int feed(LastLayer x, String text) {
        byte[] bytes = text.getBytes(StandardCharsets.ISO_8859_1);
        int[] v = new int[5];
        for (int i = 0; i < bytes.length; i += 20) {
            for (int k = 0; k < 5; k++) {
                v[k] = 0;
                for (int b = 0; b < 4; b++) {
                    int at = i + 4 * k + b;
                    v[k] = v[k] << 8 | (at < bytes.length ? bytes[at] & 255 : 32);
                }
            }
            x.feed(v[0], v[1], v[2], v[3], v[4]);
        }
        return bytes.length;
    }

    void takeYard(String text, int ricks) {
        good("yard of " + text, x.yard(feed(x, text)), ricks);
        is("fault(0)", x.fault(0), 0);
        is("fault(1)", x.fault(1), LastLayer.NONE);
    }

    void takeDays(String text, int steps) {
        good("days of " + text, x.days(feed(x, text)), steps);
        is("fault(0)", x.fault(0), 0);
        is("fault(1)", x.fault(1), LastLayer.NONE);
    }

    void refuseYard(String text, int fault, int place) {
        bad("yard of " + text, x.yard(feed(x, text)), 10);
        is("fault(0) of " + text, x.fault(0), fault);
        is("fault(1) of " + text, x.fault(1), place);
    }

    void refuseDays(String text, int fault, int place) {
        bad("days of " + text, x.days(feed(x, text)), 10);
        is("fault(0) of " + text, x.fault(0), fault);
        is("fault(1) of " + text, x.fault(1), place);
    }

    static void end() {
        System.out.println(wrong == 0 ? asked + " answers are as due" : wrong + " answers are not as due");
        if (wrong != 0) {
            System.exit(1);
        }
    }
}
