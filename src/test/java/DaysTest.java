import java.util.Collections;

/** Promises 11 and 52 to 54: DAYS, their FAULTS, LIVED by draws. */
public final class DaysTest {
    public static void main(String[] args) {
        daysRules();
        daysFaults();
        moreFaults();
        tapeAndDays();
        liveFarm();
        missed();
        wind();
        whens();
        loops();
        threeHundred();
        stops();
        weeks();
        livedRefused();
        mean();
        meanRefused();
        Due.end();
    }

    private static String times(int n, String text) {
        return String.join("", Collections.nCopies(n, text));
    }

    private static void daysRules() {
        Due t = Due.farm("promise 11");
        t.takeDays("take oat;hour;last 20;net lee;gap ditch;move nip to wagon;week 99;wind;stop;", 9);
        t.takeDays("when rats rye < 0;end;when rats oat > 9999;end;when off = 7;end;when tired big;end;loop 99;end;", 5);
        t.takeDays("loop 1;when off<1;loop 2;hour;end;hour;end;hour;end;hour;", 7);
        t.takeDays("", 0);
        t.good("days of nothing are lived", t.x.live(0), 0);
        t.takeDays(times(30, "hour;"), 30);
        t.takeDays(times(10, "loop 1;hour;wind;end;"), 30);
        t.takeDays("wind;" + times(295, " "), 1);
    }

    private static void daysFaults() {
        Due t = Due.farm("promise 11");
        t.refuseDays("rick a;", 2, 0);
        t.refuseDays("7", 2, 0);
        t.refuseDays("tired nip;", 2, 0);
        t.refuseDays("?", 1, 0);
        t.refuseDays("hour ?", 1, 5);
        t.refuseDays("end;", 2, 0);
        t.refuseDays("loop 1;end;end;", 2, 11);
        t.refuseDays("loop 1;hour;", 2, 12);
        t.refuseDays("loop 1;end", 2, 10);
        t.refuseDays("loop 1;end 1", 2, 11);
        t.refuseDays("take", 2, 4);
        t.refuseDays("take take;", 2, 5);
        t.refuseDays("take abcdefghi;", 2, 5);
        t.refuseDays("take none;", 3, 5);
        t.refuseDays("take lee;", 3, 5);
        t.refuseDays("take nip;", 3, 5);
        t.refuseDays("net oat;", 3, 4);
        t.refuseDays("gap tom;", 3, 4);
        t.refuseDays("move tom to lee;", 3, 5);
        t.refuseDays("move nip to nip;", 3, 12);
        t.refuseDays("move nip at lee;", 2, 9);
        t.refuseDays("when tired lee;", 3, 11);
        t.refuseDays("when rats nip > 1;", 3, 10);
        t.refuseDays("when hour;", 2, 5);
        t.refuseDays("when off;", 2, 8);
        t.refuseDays("when off ; 1;", 2, 9);
        t.refuseDays("when off < <", 2, 11);
        t.refuseDays("when tired nip > 1;", 2, 15);
        t.refuseDays("stop 1;", 2, 5);
    }

    private static void moreFaults() {
        Due t = Due.farm("promise 11");
        t.refuseDays("last 0;", 4, 5);
        t.refuseDays("last 21;", 4, 5);
        t.refuseDays("week 0;", 4, 5);
        t.refuseDays("week 100;", 4, 5);
        t.refuseDays("loop 0;", 4, 5);
        t.refuseDays("loop 100;", 4, 5);
        t.refuseDays("when off > 10000;", 1, 11);
        String thirty = times(30, "wind;");
        t.refuseDays(thirty + "wind;", 6, 150);
        t.refuseDays(thirty + "end;", 2, 150);
        t.refuseDays(thirty + "oat;", 2, 150);
        t.refuseDays(thirty + "?", 1, 150);
        String deep = "loop 1;when off>1;loop 1;";
        t.takeDays(deep + "hour;" + times(3, "end;"), 4);
        t.refuseDays(deep + "when", 7, deep.length());
        t.refuseDays(deep + "loop", 7, deep.length());
        t.refuseDays(deep + times(27, "hour;") + "loop", 6, deep.length() + 135);
        t.takeDays(deep + times(27, "hour;") + times(3, "end;"), 30);
        t.takeDays(deep + "end;loop 1;end;end;end;", 4);
    }

    private static void tapeAndDays() {
        Due t = Due.farm("promise 11");
        Due.feed(t.x, "hour;hour;" + times(300, " "));
        t.bad("days(301)", t.x.days(301), 5);
        t.bad("days(-1)", t.x.days(-1), 5);
        t.good("days(300)", t.x.days(300), 2);
        t.bad("the tape is empty then", t.x.days(1), 5);
        t.good("days stay", t.x.live(0), 2);
        t.refuseDays("wind", 2, 4);
        t.bad("the tape is empty behind a fault, too", t.x.days(1), 5);
        t.good("the old days stay", t.x.live(0), 2);
    }

    private static void liveFarm() {
        Due t = Due.farm("promises 52 and 53");
        t.bad("live(0)", t.x.live(0), 8);
        t.bad("live(-1)", t.x.live(-1), 5);
        t.bad("live(10000)", t.x.live(10000), 5);
        t.takeDays("take oat;hour;hour;last 2;", 4);
        t.good("live(9999)", t.x.live(9999), 4);
        int[] lived = {0, 3, 20, 10, 0};
        for (int what = 0; what < 5; what++) {
            t.good("lived(" + what + ")", t.x.lived(what), lived[what]);
        }
        t.good("all is as it became", t.x.many(9), 20);
        t.good("live(0) again", t.x.live(0), 4);
        t.good("all missed", t.x.lived(0), 4);
        t.good("none caught", t.x.lived(2), 0);
        t.good("none off", t.x.lived(3), 0);
        t.good("no hours", t.x.lived(1), 0);
        t.good("all that were caught", t.x.many(9), 20);
        t.takeYard("", 0);
        t.good("whatever came since", t.x.lived(0), 4);
    }

    private static void missed() {
        Due t = Due.farm("promise 52");
        t.takeDays("hour;last 1;net wagon;gap lee;take rye;hour;last 1;take rye;last 1;take oat;last 1;", 11);
        t.good("live(0)", t.x.live(0), 11);
        t.good("missed", t.x.lived(0), 8);
        t.good("hours and lasts", t.x.lived(1), 1);
        t.takeDays("net lee;gap wagon;move nip to lee;move nip to lee;take oat;take oat;wind;week 1;", 8);
        t.good("live(0)", t.x.live(0), 8);
        t.good("none missed", t.x.lived(0), 0);
        t.takeDays("move nip to wagon;move big to lee;", 2);
        t.good("live(0)", t.x.live(0), 2);
        t.good("nip", t.x.dog(0, 0), 2);
        t.good("big", t.x.dog(1, 0), 0);
        t.good("a net", t.x.side(0, 1), 1);
        t.good("a gap", t.x.side(2, 1), 0);
        t.good("at hand", t.x.many(8), 0);
    }

    private static void wind() {
        Due t = Due.farm("promise 52");
        t.takeDays("wind;", 1);
        t.x.live(0);
        // s: 10631, 60004, 5011
        int[] weights = {8, 0, 6};
        for (int i = 0; i < 3; i++) {
            t.good("weight", t.x.side(i, 0), weights[i]);
        }
        t.takeDays("wind;wind;", 2);
        t.x.live(0);
        int s = 5011;
        for (int i = 0; i < 3; i++) {
            s = (s * 2939 + 10631) % 65536;
            t.good("weight", t.x.side(i, 0), s / 8 % 10);
        }
    }

    /** Whether the days go into a when. */
    private static void goesIn(Due t, String test, boolean due) {
        t.takeDays("when " + test + ";wind;end;", 2);
        t.x.mark();
        t.good("steps by when " + test, t.x.live(1), due ? 2 : 1);
        t.x.back();
    }

    private static void whens() {
        Due t = Due.farm("promise 52");
        goesIn(t, "rats oat > 29", true);
        goesIn(t, "rats oat > 30", false);
        goesIn(t, "rats oat = 30", true);
        goesIn(t, "rats oat = 12", false);
        goesIn(t, "rats hay < 13", true);
        goesIn(t, "rats hay < 12", false);
        goesIn(t, "off = 0", true);
        goesIn(t, "tired nip", false);
        t.x.take(0);
        t.x.hour();
        t.x.hour();
        goesIn(t, "off = 10", true);
        goesIn(t, "off > 9", true);
        goesIn(t, "off < 10", false);
        t.takeYard("rick a holds 0 layers 5;side s weight 1;dog d at s catches 5 tires 4;", 1);
        t.x.take(0);
        t.x.last(1);
        goesIn(t, "tired d", true);
        goesIn(t, "rats a = 0", true);
        t.x.rest();
        goesIn(t, "tired d", false);
    }

    private static void loops() {
        Due t = new Due("promise 52");
        t.takeYard("rick a holds 0 layers 1 1 1 1 1 1 1 1;", 1);
        t.takeDays("take a;loop 7;hour;end;last 1;", 4);
        t.good("a step, a loop, seven hours, a last", t.x.live(0), 10);
        t.good("hours and lasts", t.x.lived(1), 8);
        t.good("none missed", t.x.lived(0), 0);
        t.takeDays("loop 3;loop 4;end;wind;end;", 3);
        t.good("an empty loop counts as one", t.x.live(0), 1 + 3 * 2);
        t.takeDays("loop 3;loop 4;wind;end;end;wind;", 4);
        t.good("loops that end at once", t.x.live(0), 1 + 3 * (1 + 4) + 1);
        t.takeDays("loop 2;when off<1;wind;end;when off=0;wind;end;end;", 5);
        t.good("whens that are passed in loops: all 8 are off", t.x.live(0), 1 + 2 * 2);
        t.takeDays("loop 2;when off>7;wind;end;when off=8;wind;end;end;", 5);
        t.good("whens in loops", t.x.live(0), 1 + 2 * 4);
        t.takeDays("loop 2;loop 3;loop 4;wind;end;end;end;wind;", 5);
        t.good("three loops that end at once", t.x.live(0), 1 + 2 * (1 + 3 * (1 + 4)) + 1);
        t.takeDays("loop 2;loop 3;loop 4;stop;end;end;end;", 4);
        t.good("stopped within three", t.x.live(0), 4);
        t.good("and once more", t.x.live(0), 4);
        t.takeDays("wind;loop 2;loop 3;loop 4;wind;end;wind;end;wind;end;wind;", 8);
        t.good("as if nothing was open", t.x.live(0), 1 + 1 + 2 * (1 + 3 * (1 + 4 + 1) + 1) + 1);
        t.takeDays("when off=9999;loop 9;wind;end;end;wind;", 4);
        t.good("a loop in a when that is passed", t.x.live(0), 2);
    }

    private static void threeHundred() {
        Due t = new Due("promises 52 and 53");
        String most = "loop 99;wind;wind;wind;end;";
        t.takeDays(most + "wind;wind;", 6);
        t.good("300 steps", t.x.live(0), 300);
        t.good("none was left", t.x.lived(4), 0);
        t.takeDays(most + "wind;wind;wind;", 7);
        t.good("300 steps", t.x.live(0), 300);
        t.good("one was left", t.x.lived(4), 1);
        t.takeDays(most + "wind;stop;wind;", 7);
        t.good("300 steps", t.x.live(0), 300);
        t.good("by stop", t.x.lived(4), 0);
        t.takeDays(most + "wind;wind;stop;", 7);
        t.x.live(0);
        t.good("a stop was left", t.x.lived(4), 1);
        t.takeDays("loop 99;" + most + "end;", 5);
        t.good("300 steps", t.x.live(0), 300);
        t.good("steps were left", t.x.lived(4), 1);
        t.takeDays("loop 1;" + most + "wind;end;", 6);
        t.good("300 steps", t.x.live(0), 300);
        t.good("an end is no step", t.x.lived(4), 0);
        t.takeDays("loop 2;" + most + "wind;end;", 6);
        t.good("300 steps", t.x.live(0), 300);
        t.good("once more was left", t.x.lived(4), 1);
    }

    private static void stops() {
        Due t = Due.farm("promise 52");
        t.takeDays("loop 9;wind;stop;wind;end;net lee;", 5);
        t.good("live(0)", t.x.live(0), 3);
        t.good("lived(4)", t.x.lived(4), 0);
        t.good("no net", t.x.side(0, 1), 0);
    }

    private static void weeks() {
        Due t = Due.farm("promise 52");
        t.takeDays("take oat;week 2;", 2);
        t.x.live(0);
        t.good("hay", t.x.rick(1, 2), 25);
        t.good("one at hand", t.x.rick(0, 2), 30);
        t.good("caps", t.x.rick(2, 2), 7);
    }

    private static void livedRefused() {
        Due t = Due.farm("promise 53");
        t.bad("lived(0)", t.x.lived(0), 8);
        t.bad("lived(5)", t.x.lived(5), 5);
        t.bad("lived(-1)", t.x.lived(-1), 5);
        t.takeDays("stop;", 1);
        t.good("mean(0, 1)", t.x.mean(0, 1));
        t.bad("a mean is not lived", t.x.lived(0), 8);
        t.bad("live(10000)", t.x.live(10000), 5);
        t.bad("lived(0)", t.x.lived(0), 8);
    }

    private static void mean() {
        Due t = new Due("promise 54");
        t.takeYard("rick a holds 0 layers 1;side s weight 1;side t weight 1;dog d at s catches 1 tires 9;", 1);
        t.takeDays("wind;take a;last 1;", 3);
        for (int from = 0; from < 9980; from += 997) {
            // the one rat comes to the first side unless that has no weight
            int caught = 0;
            for (int seed = from; seed < from + 20; seed++) {
                caught += (seed * 2939 + 10631) % 65536 / 8 % 10 == 0 ? 0 : 1;
            }
            int divisor = caught;
            while (caught % divisor != 0 || 20 % divisor != 0) {
                divisor--;
            }
            t.good("mean(" + from + ", 20)", t.x.mean(from, 20));
            t.fraction(caught / divisor, 20 / divisor);
        }
        t.good("all stays as it is", t.x.rick(0, 2), 1);
        t.good("weights too", t.x.side(0, 0), 1);
        t.takeYard(Due.FARM, 3);
        t.takeDays("take oat;hour;hour;last 2;", 4);
        t.x.take(1);
        t.x.hour();
        t.good("mean(9999, 1)", t.x.mean(9999, 1));
        t.x.mark();
        t.x.live(9999);
        t.fraction(t.x.lived(2), 1);
        t.x.back();
        t.good("at hand", t.x.many(8), 1);
        t.takeDays("wind;", 1);
        t.good("mean(3, 7)", t.x.mean(3, 7));
        t.fraction(0, 1);
    }

    private static void meanRefused() {
        Due t = Due.farm("promise 54");
        t.bad("no days", t.x.mean(0, 1), 8);
        t.bad("no seeds", t.x.mean(0, 0), 5);
        t.bad("21 seeds", t.x.mean(0, 21), 5);
        t.bad("seed -1", t.x.mean(-1, 1), 5);
        t.bad("seed 10000", t.x.mean(10000, 1), 5);
        t.bad("the last is 10000", t.x.mean(9981, 20), 5);
        t.bad("far above", t.x.mean(Integer.MAX_VALUE, 20), 5);
        t.bad("no days", t.x.mean(9980, 20), 8);
    }
}
