import java.util.Collections;

/** The edges that block 4 and promises 11 and 52 to 56 name: DAYS, their FAULTS, STEPS, draws, MARKS. */
public final class EdgesDaysTest {
    public static void main(String[] args) {
        daysCall();
        endOfText();
        faultOne();
        faultTwo();
        faultThree();
        faultFour();
        faultSix();
        faultSeven();
        firstAndLeast();
        seeds();
        missed();
        whens();
        loops();
        threeHundred();
        leftToBeDone();
        draws();
        lived();
        meanEdges();
        meanRefused();
        marks();
        marksKeep();
        Due.end();
    }

    private static String times(int n, String text) {
        return String.join("", Collections.nCopies(n, text));
    }

    private static Due yard(String about, String text, int ricks) {
        Due t = new Due(about);
        t.takeYard(text, ricks);
        return t;
    }

    private static void daysCall() {
        for (int n : new int[] {-1, 21, 300, 301, Integer.MIN_VALUE, Integer.MAX_VALUE}) {
            Due.farmEdge("promise 11: 5, and then the tape is kept", t -> {
                Due.feed(t.x, "hour;wind;          ");
                t.refused("days(" + n + ")", 5, () -> t.x.days(n));
                t.good("days(20)", t.x.days(20), 2);
            });
        }
        Due.farmEdge("promise 11: 5: above 300, too", t -> {
            Due.feed(t.x, "hour;" + times(315, " "));
            t.refused("days(301)", 5, () -> t.x.days(301));
            t.refused("days(320)", 5, () -> t.x.days(320));
            t.good("days(300)", t.x.days(300), 1);
            t.refused("the tape is empty then", 5, () -> t.x.days(1));
        });
        Due.farmEdge("block 4: a TEXT of at most 300 bytes", t -> {
            t.takeDays(times(295, "\n") + "hour;", 1);
            t.refuseDays(times(296, "\n") + "hour", 2, 300);
        });
        Due.farmEdge("promise 11: the first n bytes", t -> {
            Due.feed(t.x, "hour;wind;stop;");
            t.good("days(10)", t.x.days(10), 2);
            t.good("live(0)", t.x.live(0), 2);
        });
        Due.farmEdge("promise 11: a text of nothing", t -> {
            t.takeDays("hour;", 1);
            t.good("days(0)", t.x.days(0), 0);
            t.good("DAYS of no STEPS are lived", t.x.live(0), 0);
            t.good("nothing was left", t.x.lived(4), 0);
            t.good("and have a mean", t.x.mean(0, 20));
            t.fraction(0, 1);
        });
        Due.farmEdge("promise 11: 10: the old ones stay, the tape is empty", t -> {
            t.takeDays("wind;wind;", 2);
            String before = State.of(t.x);
            t.refuseDays("hour;hour", 2, 9);
            t.is("all is as it was", State.of(t.x).equals(before) ? 1 : 0, 1);
            t.refused("the tape", 5, () -> t.x.days(1));
            t.good("live(0)", t.x.live(0), 2);
        });
        Due.edge("block 4: none at first", t -> t.refused("live(0)", 8, () -> t.x.live(0)));
    }

    private static void endOfText() {
        String[] steps = {"take oat ;", "hour ;", "last 1 ;", "net lee ;", "gap lee ;", "move nip to lee ;", "week 1 ;",
            "wind ;", "stop ;", "when rats oat < 1 ; end ;", "when off > 1 ; end ;", "when tired nip ; end ;",
            "loop 1 ; hour; end ;"};
        for (String step : steps) {
            for (int at = step.indexOf(' '); at >= 0; at = step.indexOf(' ', at + 1)) {
                String text = step.substring(0, at);
                Due.farmEdge("FAULT 2: the end: the text's length; the text's end ahead of an end", t -> {
                    t.refuseDays(text, 2, text.length());
                    t.refuseDays(text + " \n ", 2, text.length() + 3);
                });
            }
            Due.farmEdge("block 4: STEP", t -> t.takeDays(step, step.contains("hour;") ? 2 : 1));
        }
    }

    private static void faultOne() {
        Due.farmEdge("FAULT 1: no TOKEN begins so", t -> {
            t.refuseDays("hour;?", 1, 5);
            t.refuseDays("hour\t;", 1, 4);
            t.refuseDays("take Oat;", 1, 5);
            t.refuseDays("when off <= ?", 2, 10);
            t.refuseDays("when off ! 1;", 1, 9);
            t.refuseDays("last 00001;", 1, 5);
            t.refuseDays("when off > 10000;", 1, 11);
            t.refuseDays("loop 1;!", 1, 7);
        });
    }

    private static void faultTwo() {
        Due.farmEdge("FAULT 2: it can't stand there", t -> {
            for (String word : new String[] {"rick", "holds", "side", "to", "dog", "penny", "rats", "off", "tired", "oat",
                "abcdefghi", "7", ";", "<", "=", ">"}) {
                t.refuseDays(word, 2, 0);
                t.refuseDays("hour;" + word, 2, 5);
                t.refuseDays("loop 2;" + word, 2, 7);
            }
            t.refuseDays("hour hour;", 2, 5);
            t.refuseDays("take 1;", 2, 5);
            t.refuseDays("last oat;", 2, 5);
            t.refuseDays("when;", 2, 4);
            t.refuseDays("when rats 1 < 1;", 2, 10);
            t.refuseDays("when rats oat ; 1;", 2, 14);
            t.refuseDays("when rats oat 1;", 2, 14);
            t.refuseDays("when rats oat < oat;", 2, 16);
            t.refuseDays("when off oat < 1;", 2, 9);
            t.refuseDays("when tired;", 2, 10);
            t.refuseDays("when tired nip < 1;", 2, 15);
            t.refuseDays("move nip lee;", 2, 9);
            t.refuseDays("loop;", 2, 4);
        });
        Due.farmEdge("FAULT 2: an end without a beginning", t -> {
            t.refuseDays("end;", 2, 0);
            t.refuseDays("hour;end;", 2, 5);
            t.refuseDays("loop 1;end;end;", 2, 11);
            t.refuseDays("when off = 0;end;end;", 2, 17);
            t.refuseDays("end ?", 2, 0);
        });
        Due.farmEdge("FAULT 2: the text's end ahead of an end", t -> {
            t.refuseDays("loop 1;", 2, 7);
            t.refuseDays("loop 1;loop 1;end;", 2, 18);
            t.refuseDays("loop 1;loop 1;loop 1;end;end;", 2, 29);
            t.refuseDays("when off = 0; hour; \n", 2, 21);
        });
        Due.farmEdge("FAULT 2: a WORD of 9 letters and more where a NAME must stand", t -> {
            t.refuseDays("take abcdefghi;", 2, 5);
            t.refuseDays("net abcdefghi;", 2, 4);
            t.refuseDays("move nip to abcdefghi;", 2, 12);
            t.refuseDays("when tired abcdefghi;", 2, 11);
        });
    }

    private static void faultThree() {
        String[] asks = {"take #;", "net #;", "gap #;", "move # to lee;", "move nip to #;", "when tired #;end;",
            "when rats # < 1;end;"};
        String[] fit = {"oat hay rye", "lee ditch wagon", "lee ditch wagon", "nip big", "lee ditch wagon", "nip big",
            "oat hay rye"};
        for (int i = 0; i < asks.length; i++) {
            String ask = asks[i];
            String fits = fit[i];
            Due.farmEdge("FAULT 3: a NAME that is no such one", t -> {
                for (String name : "oat hay rye lee ditch wagon nip big tom none".split(" ")) {
                    String text = ask.replace("#", name);
                    if (fits.contains(name)) {
                        t.takeDays(text, 1);
                    } else {
                        t.refuseDays(text, 3, ask.indexOf('#'));
                    }
                }
            });
        }
        Due.edge("FAULT 3: a YARD of nothing", t -> {
            t.refuseDays("take oat;", 3, 5);
            t.takeDays("hour;wind;week 1;", 3);
            t.good("live(0)", t.x.live(0), 3);
            t.good("the hour is MISSED", t.x.lived(0), 1);
        });
    }

    /** The NUMBER that stands for # may be from least to most and no other. */
    private static void limit(String text, int least, int most) {
        Due.farmEdge("FAULT 4: a NUMBER that can't be", t -> {
            t.takeDays(text.replace("#", "" + least), 1);
            t.takeDays(text.replace("#", "" + most), 1);
            if (least > 0) {
                t.refuseDays(text.replace("#", "" + (least - 1)), 4, text.indexOf('#'));
            }
            t.refuseDays(text.replace("#", "" + (most + 1)), most == 9999 ? 1 : 4, text.indexOf('#'));
        });
    }

    private static void faultFour() {
        limit("last #;", 1, 20);
        limit("week #;", 1, 99);
        limit("loop #;end;", 1, 99);
        limit("when rats oat < #;end;", 0, 9999);
        limit("when off > #;end;", 0, 9999);
    }

    private static void faultSix() {
        String thirty = times(30, "wind;");
        Due.farmEdge("FAULT 6: a 31st STEP (at its WORD; end is none)", t -> {
            t.takeDays(thirty, 30);
            for (String word : "take hour last net gap move week wind when loop stop".split(" ")) {
                t.refuseDays(thirty + word, 6, 150);
                t.refuseDays(thirty + " " + word + " ?", 6, 151);
            }
            t.refuseDays(thirty + "end;", 2, 150);
            t.refuseDays(thirty + "rick", 2, 150);
            t.refuseDays(thirty + "?", 1, 150);
            t.takeDays("loop 1;" + times(29, "wind;") + "end;", 30);
            t.refuseDays("loop 1;" + times(29, "wind;") + "end;stop", 6, 156);
            t.takeDays(times(15, "loop 1;wind;end;"), 30);
            t.takeDays(times(29, "wind;") + "loop 1;end;", 30);
        });
    }

    private static void faultSeven() {
        Due.farmEdge("FAULT 7: a when, loop within three others (at its WORD)", t -> {
            String[] three = {"loop 1;loop 1;loop 1;", "when off=0;when off=0;when off=0;", "loop 1;when off=0;loop 1;"};
            for (String begin : three) {
                t.takeDays(begin + "wind;" + times(3, "end;"), 4);
                t.refuseDays(begin + "loop", 7, begin.length());
                t.refuseDays(begin + "when ?", 7, begin.length());
                t.refuseDays(begin + "hour; loop 0", 7, begin.length() + 6);
                t.takeDays(begin + "end;loop 1;end;end;end;", 4);
                t.takeDays(begin + "end;end;end;" + begin + "end;end;end;", 6);
            }
        });
        Due.farmEdge("FAULTS 6 and 7 at one TOKEN: the least", t -> {
            String text = "loop 1;loop 1;loop 1;" + times(27, "wind;");
            t.refuseDays(text + "loop", 6, text.length());
            t.refuseDays(text + "when", 6, text.length());
        });
    }

    private static void firstAndLeast() {
        Due.farmEdge("FAULTS, the first along the text (of one TOKEN the least kind)", t -> {
            t.refuseDays("last 21;take none;?", 4, 5);
            t.refuseDays("take none;last 21;?", 3, 5);
            t.refuseDays("take none ?", 3, 5);
            t.refuseDays("take 12345", 1, 5);
            t.refuseDays("last 0 ?", 4, 5);
            t.refuseDays("move tom to none;", 3, 5);
        });
    }

    private static void seeds() {
        for (int seed : new int[] {-1, 10000, Integer.MIN_VALUE, Integer.MAX_VALUE}) {
            Due.farmEdge("promise 52: a seed (0 to 9,999); 5", t -> {
                t.refused("5 ahead of 8", 5, () -> t.x.live(seed));
                t.takeDays("wind;", 1);
                t.refused("live(" + seed + ")", 5, () -> t.x.live(seed));
                t.good("live(0)", t.x.live(0), 1);
                t.good("live(9999)", t.x.live(9999), 1);
            });
        }
        Due.farmEdge("promise 52: 8: no DAYS", t -> t.refused("live(0)", 8, () -> t.x.live(0)));
    }

    /** One STEP, MISSED or not, behind what was done. */
    private static void step(Due t, String text, boolean isMissed) {
        t.takeDays(text, 1);
        t.good("live(0)", t.x.live(0), 1);
        t.good("MISSED: " + text, t.x.lived(0), isMissed ? 1 : 0);
    }

    private static void missed() {
        Due.farmEdge("MISSED: a RICK without LAYERS", t -> {
            step(t, "take rye;", false);
            t.x.last(1);
            step(t, "take rye;", true);
            t.refused("none is AT HAND", 8, () -> t.x.many(8));
            t.x.take(1);
            step(t, "take rye;", true);
            t.good("the one AT HAND stays", t.x.many(8), 1);
        });
        Due.farmEdge("MISSED: an hour or a last without one AT HAND", t -> {
            step(t, "hour;", true);
            step(t, "last 1;", true);
        });
        Due.farmEdge("MISSED: an hour or a last with another number of LAYERS", t -> {
            t.x.take(1);
            step(t, "last 1;", true);
            t.good("two LAYERS", t.x.rick(1, 1), 2);
            step(t, "hour;", false);
            step(t, "hour;", true);
            t.good("one LAYER", t.x.rick(1, 1), 1);
            step(t, "last 20;", false);
            step(t, "last 20;", true);
            t.good("no LAYER", t.x.rick(1, 1), 0);
        });
        Due.farmEdge("MISSED: a NET where one is, a gap where one is", t -> {
            step(t, "net wagon;", true);
            step(t, "gap wagon;", false);
            step(t, "gap wagon;", true);
            step(t, "net wagon;", false);
            t.good("a NET", t.x.side(2, 1), 1);
        });
        Due.farmEdge("MISSED: nothing else can be", t -> {
            step(t, "move nip to lee;", false);
            step(t, "week 99;", false);
            step(t, "wind;", false);
            step(t, "stop;", false);
            step(t, "when off > 9999;end;", false);
            step(t, "loop 99;end;", false);
            step(t, "take oat;", false);
            step(t, "take oat;", false);
        });
    }

    private static void test(Due t, String test, boolean due) {
        t.takeDays("when " + test + ";stop;end;", 2);
        t.good("when " + test, t.x.live(0), due ? 2 : 1);
    }

    private static void whens() {
        Due.farmEdge("when rats: < or > or =", t -> {
            for (int n : new int[] {0, 29, 30, 31, 9999}) {
                test(t, "rats oat < " + n, 30 < n);
                test(t, "rats oat > " + n, 30 > n);
                test(t, "rats oat = " + n, 30 == n);
            }
        });
        Due many = yard("when rats: all RATS of a RICK, above 9,999, too", "rick a holds 0 layers 99 99;breed 100;", 1);
        many.x.week(9);
        test(many, "rats a > 9999", true);
        test(many, "rats a = 9999", false);
        test(many, "rats a < 9999", false);
        Due off = yard("when off: all that are OFF", "rick a holds 0 layers 5;rick b holds 0 layers 4;", 2);
        test(off, "off = 0", true);
        test(off, "off < 0", false);
        test(off, "off > 0", false);
        off.x.take(0);
        off.x.last(1);
        off.x.take(1);
        off.x.last(1);
        test(off, "off = 9", true);
        test(off, "off < 9", false);
        test(off, "off > 9", false);
        test(off, "off < 10", true);
        test(off, "off > 8", true);
        Due dog = yard("when tired: as many as TIRE it", "rick a holds 0 layers 2 0 1;side s weight 1;"
                + "dog d at s catches 2 tires 3;", 1);
        dog.x.take(0);
        dog.x.hour();
        test(dog, "tired d", false);
        dog.x.hour();
        test(dog, "tired d", true);
        dog.x.rest();
        test(dog, "tired d", false);
    }

    private static void loops() {
        Due.farmEdge("loop n (1 to 99): as often", t -> {
            t.takeDays("loop 1;wind;end;", 2);
            t.good("once", t.x.live(0), 2);
            t.takeDays("loop 99;wind;end;", 2);
            t.good("99 times", t.x.live(0), 100);
        });
        Due.farmEdge("loop, when: an empty one", t -> {
            t.takeDays("loop 99;end;", 1);
            t.good("live(0)", t.x.live(0), 1);
            t.takeDays("loop 99;loop 99;loop 99;end;end;end;", 3);
            t.good("each inner one as often as it is come to", t.x.live(0), 300);
            t.takeDays("when off = 0;end;wind;", 2);
            t.good("live(0)", t.x.live(0), 2);
        });
        Due.farmEdge("when, loop count as one each time they are come to from ahead", t -> {
            t.takeDays("loop 3;when off = 0;wind;end;end;", 3);
            t.good("one, and three times two", t.x.live(0), 7);
            t.takeDays("loop 3;when off > 0;wind;end;end;", 3);
            t.good("one, and three times one", t.x.live(0), 4);
            t.takeDays("loop 2;loop 3;wind;end;end;", 3);
            t.good("one, and twice four", t.x.live(0), 9);
        });
        Due.farmEdge("stop ends all", t -> {
            t.takeDays("stop;wind;", 2);
            t.good("live(0)", t.x.live(0), 1);
            t.takeDays("loop 9;when off=0;stop;end;wind;end;wind;", 5);
            t.good("within both", t.x.live(0), 3);
        });
    }

    private static void threeHundred() {
        // 1 and 99 times 3 are 298
        String most = "loop 99;wind;wind;wind;end;";
        String[] more = {"wind;", "wind;wind;", "wind;wind;wind;", "wind;wind;wind;wind;"};
        int[] steps = {299, 300, 300, 300};
        int[] left = {0, 0, 1, 1};
        for (int i = 0; i < more.length; i++) {
            String text = most + more[i];
            int here = i;
            Due.farmEdge("at most 300 STEPS", t -> {
                t.takeDays(text, 5 + here);
                t.good("live(0)", t.x.live(0), steps[here]);
                t.good("lived(4)", t.x.lived(4), left[here]);
            });
        }
        Due.farmEdge("at most 300 STEPS: the 301st is not done", t -> {
            t.takeDays(most + "wind;wind;net lee;", 7);
            t.good("live(0)", t.x.live(0), 300);
            t.good("no NET", t.x.side(0, 1), 0);
        });
        Due.farmEdge("at most 300 STEPS: the 300th is done", t -> {
            t.takeDays(most + "wind;net lee;wind;", 7);
            t.good("live(0)", t.x.live(0), 300);
            t.good("a NET", t.x.side(0, 1), 1);
        });
        Due.farmEdge("promise 52: STEPS that were come to, MISSED ones, too", t -> {
            t.takeDays("loop 99;hour;last 1;gap lee;end;hour;hour;hour;", 7);
            t.good("live(0)", t.x.live(0), 300);
            t.good("MISSED", t.x.lived(0), 299);
            t.good("HOURS and LASTS", t.x.lived(1), 0);
            t.good("one was left", t.x.lived(4), 1);
        });
    }

    /** 299 STEPS, and then: whether a STEP was left. */
    private static void left(String then, int steps, int due) {
        Due.farmEdge("promise 53: a STEP was left to be done (by the 300 alone, not by stop)", t -> {
            t.takeDays("loop 99;wind;wind;wind;end;wind;" + then, 5 + steps);
            t.good("live(0) of " + then, t.x.live(0), 300);
            t.good("lived(4) of " + then, t.x.lived(4), due);
        });
    }

    private static void leftToBeDone() {
        left("stop;", 1, 0);
        left("stop;wind;", 2, 0);
        left("wind;stop;", 2, 1);
        left("loop 9;end;", 1, 0);
        left("loop 9;wind;end;", 2, 1);
        left("when off = 0;end;", 1, 0);
        left("when off = 0;wind;end;", 2, 1);
        left("when off > 0;wind;end;", 2, 0);
        left("when off > 0;wind;end;wind;", 3, 1);
        left("hour;", 1, 0);
        Due.farmEdge("promise 53: within loops", t -> {
            // 1 and 99 times 2 are 199
            String most = "loop 99;wind;wind;end;";
            t.takeDays(most + "wind;loop 99;wind;end;", 6);
            t.good("201 and 99", t.x.live(0), 300);
            t.good("the last time was done", t.x.lived(4), 0);
            t.takeDays(most + "wind;wind;loop 99;wind;end;", 7);
            t.good("202 and 98", t.x.live(0), 300);
            t.good("the last time was left", t.x.lived(4), 1);
            t.takeDays(most + "wind;loop 99;wind;end;wind;", 7);
            t.good("201 and 99", t.x.live(0), 300);
            t.good("the STEP behind the loop was left", t.x.lived(4), 1);
            t.takeDays(most + "loop 50;loop 1;wind;end;end;", 6);
            t.good("200 and 50 times 2", t.x.live(0), 300);
            t.good("all was done", t.x.lived(4), 0);
            t.takeDays(most + "wind;loop 50;loop 1;wind;end;end;", 7);
            t.good("201 and 99", t.x.live(0), 300);
            t.good("half of the last time was left", t.x.lived(4), 1);
        });
    }

    private static void draws() {
        // s becomes s times 2,939 and 10,631, and what is left by 65,536
        int[][] due = {{0, 10631, 60004, 5011}, {1, 13570, 46973, 45462}, {9999, 37564, 48603, 51904}};
        for (int[] d : due) {
            Due.farmEdge("draws: what is left by 65,536; the rest of s by 8, rounded down, by n", t -> {
                t.takeDays("wind;", 1);
                t.x.live(d[0]);
                for (int i = 0; i < 3; i++) {
                    t.good("WEIGHT " + i + " by seed " + d[0], t.x.side(i, 0), d[i + 1] / 8 % 10);
                }
            });
        }
        Due.farmEdge("draws: s, at first the seed, each time", t -> {
            t.takeDays("wind;", 1);
            t.x.live(0);
            t.x.live(0);
            t.good("WEIGHT", t.x.side(0, 0), 8);
            t.good("WEIGHT", t.x.side(1, 0), 0);
            t.good("WEIGHT", t.x.side(2, 0), 6);
        });
        Due.farmEdge("wind: SIDE by SIDE, and the next wind goes on", t -> {
            t.takeDays("wind;wind;", 2);
            t.x.live(0);
            int s = 5011;
            for (int i = 0; i < 3; i++) {
                s = (s * 2939 + 10631) % 65536;
                t.good("WEIGHT", t.x.side(i, 0), s / 8 % 10);
            }
        });
    }

    private static void lived() {
        Due.edge("promise 53: 8: there was none", t -> {
            for (int what = 0; what < 5; what++) {
                int asked = what;
                t.refused("lived(" + what + ")", 8, () -> t.x.lived(asked));
            }
        });
        for (int what : new int[] {-1, 5, Integer.MIN_VALUE, Integer.MAX_VALUE}) {
            Due.farmEdge("promise 53: what 0 to 4; 5", t -> {
                t.refused("5 ahead of 8", 5, () -> t.x.lived(what));
                t.takeDays("stop;", 1);
                t.x.live(0);
                t.refused("lived(" + what + ")", 5, () -> t.x.lived(what));
            });
        }
        Due.farmEdge("promise 53: of live() latest with STATUS 0, whatever came since", t -> {
            t.takeDays("take oat;hour;hour;last 2;gap lee;", 5);
            t.good("live(0)", t.x.live(0), 5);
            t.refused("live(-1)", 5, () -> t.x.live(-1));
            t.good("mean(1, 2)", t.x.mean(1, 2));
            t.x.mark();
            t.x.yard(0);
            t.refused("live(0)", 8, () -> t.x.live(0));
            t.x.back();
            int[] due = {1, 3, 20, 10, 0};
            for (int what = 0; what < 5; what++) {
                t.good("lived(" + what + ")", t.x.lived(what), due[what]);
            }
        });
        Due.farmEdge("promise 53: by that living alone", t -> {
            t.x.take(0);
            t.x.hour();
            t.x.hour();
            t.takeDays("last 2;", 1);
            t.x.live(0);
            t.good("caught", t.x.lived(2), 13);
            t.good("OFF", t.x.lived(3), 0);
            t.good("caught in all", t.x.many(9), 20);
            t.good("OFF in all", t.x.many(10), 10);
        });
    }

    private static void meanEdges() {
        Due.farmEdge("promise 54: by so many seeds (1 to 20) from one on", t -> {
            t.takeDays("take oat;hour;hour;last 2;", 4);
            t.good("one seed, the last one", t.x.mean(9999, 1));
            t.fraction(20, 1);
            t.good("20 seeds, the last ones", t.x.mean(9980, 20));
            t.fraction(20, 1);
            t.good("20 seeds, the first ones", t.x.mean(0, 20));
            t.fraction(20, 1);
        });
        Due.farmEdge("promise 54: all stays as it is", t -> {
            t.takeDays("wind;take oat;hour;hour;last 2;net lee;move nip to wagon;week 3;", 8);
            String before = State.of(t.x);
            t.good("mean(0, 20)", t.x.mean(0, 20));
            t.is("as it was, but for the FRACTION", cut(State.of(t.x)).equals(cut(before)) ? 1 : 0, 1);
        });
        Due.farmEdge("promise 54: all stays as it is, the DAYS and what was LIVED, too", t -> {
            t.takeDays("wind;", 1);
            t.x.take(0);
            String before = State.of(t.x);
            t.good("mean(0, 1)", t.x.mean(0, 1));
            t.fraction(0, 1);
            t.is("as it was", State.of(t.x).equals(before) ? 1 : 0, 1);
            t.refused("lived(0)", 8, () -> t.x.lived(0));
            t.good("live(0)", t.x.live(0), 1);
        });
        Due chance = yard("promise 54: the mean without a common divisor", "rick a holds 0 layers 1;side s weight 1;"
                + "side t weight 1;boy b at s reach 1;", 1);
        chance.takeDays("wind;take a;last 1;", 3);
        // the first draws by the seeds 5 to 12: 5, 3, 0, 7, 5, 2, 0, 7; by a 0 the rat does not come to s
        int[][] due = {{7, 1, 0, 1}, {8, 1, 1, 1}, {6, 2, 1, 2}, {5, 4, 3, 4}, {7, 6, 2, 3}, {8, 3, 1, 1}};
        for (int[] d : due) {
            chance.good("mean(" + d[0] + ", " + d[1] + ")", chance.x.mean(d[0], d[1]));
            chance.fraction(d[2], d[3]);
        }
    }

    /** What is told without the FRACTION. */
    private static String cut(String state) {
        String[] all = state.split(" ");
        all[all.length - 3] = "";
        all[all.length - 2] = "";
        return String.join(" ", all);
    }

    private static void meanRefused() {
        int[][] wrong = {{0, 0}, {0, -1}, {0, 21}, {0, Integer.MAX_VALUE}, {0, Integer.MIN_VALUE}, {-1, 1}, {-1, 20},
            {10000, 1}, {9999, 2}, {9981, 20}, {Integer.MAX_VALUE, 1}, {Integer.MAX_VALUE, 20}, {Integer.MIN_VALUE, 1},
            {Integer.MAX_VALUE, Integer.MAX_VALUE}};
        for (int[] w : wrong) {
            Due.farmEdge("promise 54: 5: the last above 9,999, too", t -> {
                t.denied("5 ahead of 8", 5, () -> t.x.mean(w[0], w[1]));
                t.takeDays("wind;", 1);
                t.denied("mean(" + w[0] + ", " + w[1] + ")", 5, () -> t.x.mean(w[0], w[1]));
            });
        }
        Due.farmEdge("promise 54: 8", t -> t.denied("mean(9980, 20)", 8, () -> t.x.mean(9980, 20)));
    }

    private static void marks() {
        Due.farmEdge("MARKS, at most 3", t -> {
            t.good("mark()", t.x.mark(), 1);
            t.x.lean(0, 4);
            t.good("mark()", t.x.mark(), 2);
            t.x.lean(0, 5);
            t.good("mark()", t.x.mark(), 3);
            t.x.lean(0, 6);
            t.bad("a fourth", t.x.mark(), 7);
            t.x.lean(0, 7);
            t.good("back()", t.x.back(), 2);
            t.good("the latest", t.x.side(0, 0), 5);
            t.good("mark() once more", t.x.mark(), 3);
            t.bad("a fourth", t.x.mark(), 7);
            t.good("back()", t.x.back(), 2);
            t.good("back()", t.x.back(), 1);
            t.good("the second", t.x.side(0, 0), 4);
            t.good("back()", t.x.back(), 0);
            t.good("the first", t.x.side(0, 0), 3);
            t.refused("which is gone then", 8, () -> t.x.back());
        });
        Due.edge("promise 56: 8", t -> t.refused("back()", 8, () -> t.x.back()));
        Due.farmEdge("promise 55: 7 changes nothing", t -> {
            t.x.mark();
            t.x.mark();
            t.x.mark();
            t.x.lean(0, 9);
            t.refused("mark()", 7, () -> t.x.mark());
            t.good("WEIGHT", t.x.side(0, 0), 9);
            t.x.back();
            t.good("WEIGHT", t.x.side(0, 0), 3);
        });
    }

    private static void marksKeep() {
        Due.farmEdge("MARKS: the YARD with all that became of it", t -> {
            t.x.take(0);
            t.x.hour();
            t.x.hour();
            t.x.cap(1);
            String before = State.of(t.x);
            t.x.mark();
            t.x.last(20);
            t.x.rest();
            t.x.net(0);
            t.x.gap(2);
            t.x.move(0, 1);
            t.x.send(0, 1);
            t.x.lean(1, 9);
            t.x.cap(0);
            t.x.take(1);
            t.x.week(9);
            t.good("back()", t.x.back(), 0);
            t.is("all is as it was", State.of(t.x).equals(before) ? 1 : 0, 1);
            t.good("the PENCE, too", t.x.cap(0), 200);
        });
        Due.farmEdge("MARKS: how TIRED the DOGS are", t -> {
            t.x.take(0);
            t.x.hour();
            t.x.hour();
            t.x.last(20);
            t.good("tired()", t.x.tired(), 1);
            t.x.mark();
            t.x.rest();
            t.x.back();
            t.good("tired()", t.x.tired(), 1);
        });
        Due.farmEdge("MARKS: the DAYS are kept as they are", t -> {
            t.x.mark();
            t.takeDays("wind;", 1);
            t.x.mark();
            t.takeDays("hour;hour;", 2);
            t.x.back();
            t.good("one STEP", t.x.live(0), 1);
            t.x.back();
            t.refused("no DAYS", 8, () -> t.x.live(0));
        });
        Due.farmEdge("MARKS: another YARD does not take them away", t -> {
            t.x.mark();
            t.takeYard("rick a holds 1 layers 1;", 1);
            t.good("mark()", t.x.mark(), 2);
            t.x.yard(0);
            t.good("back()", t.x.back(), 1);
            t.good("RICKS", t.x.many(0), 1);
            t.good("back()", t.x.back(), 0);
            t.good("RICKS", t.x.many(0), 3);
            t.takeDays("take oat;net lee;move nip to ditch;", 3);
        });
    }
}
