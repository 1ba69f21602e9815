import java.util.Collections;

/** The edges that block 1 and promises 9, 10 and 12 name: the tape, TOKENS, the YARD's PARTS and its FAULTS. */
public final class EdgesTextsTest {
    public static void main(String[] args) {
        tape();
        yardCall();
        bytes();
        tokens();
        names();
        limits();
        without();
        numbered();
        endOfText();
        taken();
        told();
        oneTooMany();
        firstAndLeast();
        inPlaceOfThatAhead();
        faultCall();
        Due.end();
    }

    private static String times(int n, String text) {
        return String.join("", Collections.nCopies(n, text));
    }

    private static void tape() {
        Due.edge("promise 9: NONE if there would be more than 900", t -> {
            for (int i = 1; i <= 45; i++) {
                t.is("feed()", t.x.feed(0x20202020, 0x20202020, 0x20202020, 0x20202020, 0x20202020), 20 * i);
            }
            t.is("a 46th feed()", t.x.feed(0x3f3f3f3f, 0x3f3f3f3f, 0x3f3f3f3f, 0x3f3f3f3f, 0x3f3f3f3f), -1);
            t.is("and once more", t.x.feed(0, 0, 0, 0, 0), -1);
            t.is("STATUS stays", t.x.status(), 0);
            t.good("900 blanks are as they were", t.x.yard(900), 0);
        });
        Due.edge("promise 9: come behind those on the tape", t -> {
            t.is("feed()", t.x.feed(0x20202020, 0x20202020, 0x20202020, 0x20202020, 0x20207065), 20);
            t.is("feed()", t.x.feed(0x6e6e7920, 0x373b2020, 0x20202020, 0x20202020, 0x20202020), 40);
            t.good("yard(40)", t.x.yard(40), 0);
            t.good("PENNY", t.x.many(4), 7);
        });
        Due.edge("promise 9: the highest of each int first", t -> {
            t.is("feed()", t.x.feed(0x636f7374, 0x20393938, 0x3bffffff, -1, -1), 20);
            t.good("yard(9)", t.x.yard(9), 0);
            t.good("COST", t.x.many(7), 998);
        });
    }

    private static void yardCall() {
        for (int n : new int[] {-1, 21, 900, 901, Integer.MIN_VALUE, Integer.MAX_VALUE}) {
            Due.edge("promise 10: 5, and then the tape is kept", t -> {
                Due.feed(t.x, "penny 3;            ");
                t.refused("yard(" + n + ")", 5, () -> t.x.yard(n));
                t.is("fault(0)", t.x.fault(0), -1);
                t.good("yard(20)", t.x.yard(20), 0);
                t.good("PENNY", t.x.many(4), 3);
            });
        }
        Due.edge("promise 10: the tape is empty then", t -> {
            Due.feed(t.x, "penny 3;corn 4;");
            t.good("yard(8)", t.x.yard(8), 0);
            t.good("CORN: not of the first 8 bytes", t.x.many(5), 1);
            t.refused("yard(1)", 5, () -> t.x.yard(1));
            t.is("feed()", t.x.feed(0, 0, 0, 0, 0), 20);
        });
        Due.edge("promise 10: a FAULT empties the tape, too", t -> {
            t.refuseYard("penny", 2, 5);
            t.refused("yard(1)", 5, () -> t.x.yard(1));
            t.is("feed()", t.x.feed(0, 0, 0, 0, 0), 20);
        });
        Due.farmEdge("promise 10: a text of nothing", t -> {
            Due.feed(t.x, "penny 3;");
            t.good("yard(0)", t.x.yard(0), 0);
            t.refused("the tape is empty then", 5, () -> t.x.yard(1));
            t.good("no RICKS", t.x.many(0), 0);
            t.good("PENNY", t.x.many(4), 1);
        });
        Due.edge("block 1: a TEXT of at most 900 bytes", t -> {
            t.takeYard(times(892, " ") + "penny 9;", 0);
            t.good("PENNY", t.x.many(4), 9);
            t.refuseYard(times(893, "\n") + "penny 9", 2, 900);
        });
        Due.farmEdge("promise 10: 10: the old one stays", t -> {
            t.takeDays("hour;", 1);
            t.x.take(0);
            t.x.hour();
            t.x.hour();
            String before = State.of(t.x);
            t.refuseYard("rick z holds 1 layers 1;penny 9;side", 2, 36);
            t.is("all is as it was", State.of(t.x).equals(before) ? 1 : 0, 1);
            t.good("the DAYS, too", t.x.live(0), 1);
        });
    }

    private static void bytes() {
        for (int b = 0; b < 256; b++) {
            String text = String.valueOf((char) b);
            int here = b;
            Due.edge("block 1: TOKENS; between them blanks (10, 32)", t -> {
                boolean begins = here >= 'a' && here <= 'z' || here >= '0' && here <= '9'
                        || here == ';' || here == '<' || here == '>' || here == '=';
                if (here == 10 || here == 32) {
                    t.takeYard(text, 0);
                } else {
                    t.refuseYard(text, begins ? 2 : 1, 0);
                    t.refuseDays(text, begins ? 2 : 1, 0);
                    t.refuseYard("penny 1;" + text, begins ? 2 : 1, 8);
                }
            });
        }
    }

    private static void tokens() {
        Due.edge("block 1: as long as they go", t -> {
            t.takeYard("rick a holds 1layers 2 3caps;side b weight 4net to a;", 1);
            t.refuseYard("ricka holds 1 layers 1;", 2, 0);
            t.refuseYard("rick aholds 1 layers 1;", 2, 12);
            t.refuseYard("penny 1 0;", 2, 8);
            t.refuseYard("pen ny 1;", 2, 0);
        });
        Due.edge("block 1: no blank is needed where a TOKEN ends of itself", t -> {
            t.takeYard("penny1;corn2;breed3;cost4;", 0);
            t.good("COST", t.x.many(7), 4);
        });
        Due.edge("block 1: blanks, as many as there are", t -> {
            t.takeYard("\n\n  penny \n 3  \n; \n", 0);
            t.good("PENNY", t.x.many(4), 3);
        });
        Due.edge("block 1: NUMBERS (1 to 4 digits)", t -> {
            t.takeYard("cost 0;", 0);
            t.takeYard("cost 0999;", 0);
            t.good("COST", t.x.many(7), 999);
            t.takeYard("cost 0000;", 0);
            t.good("COST", t.x.many(7), 0);
            t.refuseYard("cost 9999;", 4, 5);
        });
        Due.edge("FAULT 1: a NUMBER of 5 digits and more: at its first", t -> {
            t.refuseYard("cost 00001;", 1, 5);
            t.refuseYard("cost 12345", 1, 5);
            t.refuseYard("cost " + times(895, "0"), 1, 5);
            t.refuseYard("12345", 1, 0);
            t.refuseYard("cost 1 12345", 1, 7);
        });
        Due.edge("FAULT 2: it can't stand there", t -> {
            for (String token : new String[] {"<", ">", "=", ";", "7", "holds", "take", "abc", "abcdefghi"}) {
                t.refuseYard(token, 2, 0);
                t.refuseYard("corn " + (token.equals("7") ? "x" : token), 2, 5);
            }
        });
    }

    private static void names() {
        Due.edge("NAME: a WORD of 1 to 8 letters", t -> {
            t.takeYard("rick a holds 1 layers 1;rick abcdefgh holds 1 layers 1;", 2);
            t.takeYard("side z weight 1;side zzzzzzzz weight 1;dog aaaaaaaa at zzzzzzzz catches 1 tires 1;", 0);
        });
        Due.edge("FAULT 2: a WORD of 9 letters and more where a NAME must stand", t -> {
            t.refuseYard("rick abcdefghi holds 1 layers 1;", 2, 5);
            t.refuseYard("side abcdefghi weight 1;", 2, 5);
            String side = "side s weight 1;";
            t.refuseYard(side + "dog abcdefghi at s catches 1 tires 1;", 2, 20);
            t.refuseYard(side + "boy abcdefghi at s reach 1;", 2, 20);
            t.refuseYard(side + "dog d at abcdefghi catches 1 tires 1;", 2, 25);
            t.refuseYard(side + "boy b at abcdefghi reach 1;", 2, 25);
            t.refuseYard("rick r holds 1 layers 1;side s weight 1 to abcdefghi;", 2, 43);
            t.refuseYard("rick " + times(895, "r"), 2, 5);
        });
        for (String word : Model.WORDS) {
            Due.edge("NAME: none of rick, holds, .., stop", t -> {
                t.refuseYard("rick " + word + " holds 1 layers 1;", 2, 5);
                t.refuseYard("side " + word + " weight 1;", 2, 5);
                t.refuseYard("side s weight 1;dog " + word + " at s catches 1 tires 1;", 2, 20);
                t.refuseYard("side s weight 1;boy b at " + word + " reach 1;", 2, 25);
                t.refuseYard("rick r holds 1 layers 1;side s weight 1 to " + word + ";", 2, 43);
            });
        }
        Due.edge("NAME: what is none of these WORDS may be one", t -> {
            for (String name : new String[] {"ricks", "hold", "layer", "cap", "tail", "step", "yard", "day", "nets"}) {
                t.takeYard("rick " + name + " holds 1 layers 1;", 1);
            }
        });
    }

    /** The NUMBER that stands for # may be from least to most and no other. */
    private static void limit(String text, int least, int most) {
        Due.edge("block 1: a NUMBER that can't be", t -> {
            int ricks = text.startsWith("rick") ? 1 : 0;
            int place = text.indexOf('#');
            t.takeYard(text.replace("#", "" + least), ricks);
            t.takeYard(text.replace("#", "" + most), ricks);
            t.refuseYard(text.replace("#", "" + (most + 1)), 4, place);
            t.refuseYard(text.replace("#", "9999"), 4, place);
            if (least > 0) {
                t.refuseYard(text.replace("#", "" + (least - 1)), 4, place);
            }
        });
    }

    private static void limits() {
        limit("rick a holds # layers 1;", 0, 99);
        limit("rick a holds 1 layers #;", 0, 99);
        limit("rick a holds 1 layers 1 2 3 4 5 6 7 #;", 0, 99);
        limit("side a weight #;", 0, 9);
        limit("side a weight 1;dog d at a catches # tires 1;", 1, 20);
        limit("side a weight 1;dog d at a catches 1 tires #;", 1, 200);
        limit("side a weight 1;boy d at a reach #;", 0, 9);
        limit("penny #;", 0, 9);
        limit("corn #;", 0, 9);
        limit("breed #;", 0, 100);
        limit("cost #;", 0, 999);
    }

    private static void without() {
        Due.edge("block 1: PENNY 1 without, CORN 1 without, BREED 0 without, COST 0 without", t -> {
            t.takeYard("penny 2;corn 3;breed 4;cost 5;", 0);
            t.takeYard(" ", 0);
            t.good("PENNY", t.x.many(4), 1);
            t.good("CORN", t.x.many(5), 1);
            t.good("BREED", t.x.many(6), 0);
            t.good("COST", t.x.many(7), 0);
        });
        Due.edge("block 1: with CAPS or not; with a NET or a gap (without); TO a RICK or to nowhere (without)", t -> {
            t.takeYard("rick a holds 1 layers 1;rick b holds 1 layers 1 caps;side c weight 1;side d weight 1 net;"
                    + "side e weight 1 to a;side f weight 1 net to b;", 2);
            t.good("CAPS", t.x.rick(0, 3) + 2 * t.x.rick(1, 3), 2);
            t.good("NETS", t.x.side(0, 1) + 2 * t.x.side(1, 1) + 4 * t.x.side(2, 1) + 8 * t.x.side(3, 1), 10);
            t.refused("TO", 8, () -> t.x.side(0, 2));
            t.refused("TO", 8, () -> t.x.side(1, 2));
            t.good("TO", t.x.side(2, 2), 0);
            t.good("TO", t.x.side(3, 2), 1);
        });
        Due.edge("block 1: LAYERS, 1 to 8 of them", t -> {
            t.refuseYard("rick a holds 1 layers;", 2, 21);
            t.refuseYard("rick a holds 1 layers caps;", 2, 22);
            t.takeYard("rick a holds 1 layers 9;", 1);
            t.good("one", t.x.rick(0, 1), 1);
            t.takeYard("rick a holds 1 layers 1 2 3 4 5 6 7 8;", 1);
            t.good("eight", t.x.rick(0, 1), 8);
            for (int k = 0; k < 8; k++) {
                t.good("the upper one first", t.x.layer(0, k), k + 1);
            }
        });
        Due.edge("block 1: LAYERS of no RATS", t -> {
            t.takeYard("rick a holds 0 layers 0 0;", 1);
            t.good("LAYERS", t.x.rick(0, 1), 2);
            t.good("RATS", t.x.rick(0, 2), 0);
            t.good("take", t.x.take(0), 2);
            t.good("hour", t.x.hour(), 0);
        });
    }

    private static void numbered() {
        Due.edge("block 1: all are numbered as they stand", t -> {
            t.takeYard("side s weight 1;rick a holds 3 layers 1;boy b at s reach 3;side u weight 2 to a;cost 8;"
                    + "dog d at u catches 5 tires 6;rick z holds 4 layers 1;dog e at s catches 7 tires 8;", 2);
            t.good("HOLDS", t.x.rick(0, 0) + 10 * t.x.rick(1, 0), 43);
            t.good("WEIGHT", t.x.side(0, 0) + 10 * t.x.side(1, 0), 21);
            t.good("AT", t.x.dog(0, 0) + 10 * t.x.dog(1, 0), 1);
            t.good("CATCHES", t.x.dog(0, 1) + 10 * t.x.dog(1, 1), 75);
        });
        Due.edge("block 1: what a PART names must be told ahead", t -> {
            t.refuseYard("side s weight 1 to a;rick a holds 1 layers 1;", 3, 19);
            t.refuseYard("dog d at s catches 1 tires 1;side s weight 1;", 3, 9);
            t.refuseYard("boy d at s reach 1;side s weight 1;", 3, 9);
            t.refuseYard("side s weight 1 to s;", 3, 19);
        });
    }

    private static void endOfText() {
        String[] parts = {"rick a holds 1 layers 2 caps ;", "rick r holds 1 layers 1;side a weight 1 net to r ;",
            "side s weight 1;dog a at s catches 1 tires 1 ;", "side s weight 1;boy a at s reach 1 ;", "penny 1 ;",
            "corn 1 ;", "breed 1 ;", "cost 1 ;"};
        for (String part : parts) {
            int from = part.indexOf(';', 0) == part.length() - 1 ? 0 : part.indexOf(';') + 1;
            for (int at = part.indexOf(' ', from); at >= 0; at = part.indexOf(' ', at + 1)) {
                String text = part.substring(0, at);
                Due.edge("FAULT 2: the end: the text's length", t -> {
                    t.refuseYard(text, 2, text.length());
                    t.refuseYard(text + "  \n", 2, text.length() + 3);
                });
            }
        }
    }

    private static void taken() {
        String all = "rick a holds 1 layers 1;side b weight 1;dog c at b catches 1 tires 1;boy d at b reach 1;";
        String[] begins = {"rick ", "side ", "dog ", "boy "};
        for (String name : new String[] {"a", "b", "c", "d"}) {
            for (String begin : begins) {
                Due.edge("FAULT 3: a new NAME that is taken", t -> {
                    t.refuseYard(all + begin + name, 3, all.length() + begin.length());
                    t.refuseYard(all + begin + name + " ?", 3, all.length() + begin.length());
                });
            }
        }
        String[] asks = {"side e weight 1 to ", "dog e at ", "boy e at "};
        String[] fit = {"a", "b", "b"};
        for (int i = 0; i < asks.length; i++) {
            for (String name : new String[] {"a", "b", "c", "d", "e", "f"}) {
                String text = all + asks[i] + name;
                boolean fits = name.equals(fit[i]);
                Due.edge("FAULT 3: a NAME that is no such one told ahead",
                        t -> t.refuseYard(text, fits ? 2 : 3, fits ? text.length() : text.length() - 1));
            }
        }
        Due.edge("block 1: a NAME of the YARD ahead is free", t -> {
            t.takeYard(all, 1);
            t.takeYard("side a weight 1;rick b holds 1 layers 1;dog d at a catches 1 tires 1;boy c at a reach 1;", 1);
            t.refuseYard("dog x at a catches 1 tires 1;", 3, 9);
        });
        Due.edge("block 1: NAMES that begin alike are others", t -> t.takeYard("rick a holds 1 layers 1;"
                + "rick aa holds 1 layers 1;rick aaaaaaaa holds 1 layers 1;rick aaaaaaab holds 1 layers 1;", 4));
    }

    private static void told() {
        for (String word : new String[] {"penny", "corn", "breed", "cost"}) {
            Due.edge("FAULT 5: penny, corn, breed, cost told already (at that WORD)", t -> {
                t.refuseYard(word + " 1;" + word, 5, word.length() + 3);
                t.refuseYard(word + " 1;" + word + " 1;", 5, word.length() + 3);
                t.refuseYard(word + " 0;side s weight 1;" + word + " 9999;", 5, word.length() + 19);
                t.refuseYard(word + " 1;" + word + " ?", 5, word.length() + 3);
                t.takeYard(word + " 1;", 0);
                t.takeYard(word + " 1;", 0);
            });
        }
    }

    private static void oneTooMany() {
        String side = "side s weight 1;";
        String[] four = {"", "", side, side};
        for (char c = 'a'; c < 'e'; c++) {
            four[0] += "rick " + c + " holds 1 layers 1;";
            four[1] += "side " + c + " weight 1;";
            four[2] += "dog " + c + " at s catches 1 tires 1;";
            four[3] += "boy " + c + " at s reach 1;";
        }
        String[] words = {"rick", "side", "dog", "boy"};
        for (int i = 0; i < 4; i++) {
            String text = four[i];
            String word = words[i];
            int what = i;
            Due.edge("FAULT 6: one more rick, side, dog, boy than there may be (at that WORD)", t -> {
                t.takeYard(text, what == 0 ? 4 : 0);
                t.good("four", t.x.many(what), 4);
                t.refuseYard(text + word, 6, text.length());
                t.refuseYard(text + word + " a", 6, text.length());
                t.refuseYard(text + word + " ?", 6, text.length());
                t.refuseYard(text + "penny 1;" + word + " e", 6, text.length() + 8);
            });
        }
        String eight = "rick a holds 1 layers 1 1 1 1 1 1 1 1";
        Due.edge("FAULT 6: a ninth LAYER (at its NUMBER, behind 4)", t -> {
            t.refuseYard(eight + " 0", 6, 38);
            t.refuseYard(eight + " 99 ;", 6, 38);
            t.refuseYard(eight + " 100 ;", 4, 38);
            t.refuseYard(eight + " 9999 ;", 4, 38);
            t.refuseYard(eight + " 10000 ;", 1, 38);
            t.refuseYard(eight + " ?", 1, 38);
            t.refuseYard(eight + " caps 1;", 2, 43);
            t.takeYard(eight + " caps;", 1);
        });
    }

    private static void firstAndLeast() {
        Due.edge("FAULTS, the first along the text", t -> {
            t.refuseYard("penny 10;?", 4, 6);
            t.refuseYard("penny 1;penny ?", 5, 8);
            t.refuseYard("penny ?;penny 10;", 1, 6);
            t.refuseYard("rick a holds 1 layers 1;rick a holds 100 layers 1;", 3, 29);
            t.refuseYard("rick a holds 100 holds ?", 4, 13);
            t.refuseYard("rick abcdefghi 12345", 2, 5);
        });
        Due.edge("FAULTS, of one TOKEN the least kind", t -> {
            t.refuseYard("rick 12345", 1, 5);
            t.refuseYard("rick a holds 10000", 1, 13);
            t.refuseYard("rick a holds holds", 2, 13);
        });
    }

    private static void inPlaceOfThatAhead() {
        Due.farmEdge("block 1: no RICK is AT HAND", t -> {
            t.x.take(0);
            t.takeYard(Due.FARM, 3);
            t.refused("many(8)", 8, () -> t.x.many(8));
            t.refused("hour()", 8, () -> t.x.hour());
        });
        Due.farmEdge("block 1: no TAILS are, nobody is tired", t -> {
            t.x.take(0);
            t.x.hour();
            t.x.hour();
            t.x.last(20);
            t.good("nip is tired", t.x.tired() & 1, 1);
            t.takeYard(Due.FARM, 3);
            t.good("tired()", t.x.tired(), 0);
            t.good("caught", t.x.many(9), 0);
            t.good("OFF", t.x.many(10), 0);
            t.good("RUNS", t.x.many(11), 0);
            t.good("PAY", t.x.pay(), 0);
            t.denied("share()", 8, () -> t.x.share());
        });
        Due.farmEdge("block 1: there are no DAYS", t -> {
            t.takeDays("stop;", 1);
            t.takeYard(Due.FARM, 3);
            t.refused("live(0)", 8, () -> t.x.live(0));
            t.denied("mean(0, 1)", 8, () -> t.x.mean(0, 1));
        });
    }

    private static void faultCall() {
        Due.edge("promise 12: NONE ahead of any", t -> {
            t.is("fault(0)", t.x.fault(0), -1);
            t.is("fault(1)", t.x.fault(1), -1);
        });
        Due.edge("promise 12: NONE for others", t -> {
            t.refuseYard("?", 1, 0);
            for (int what : new int[] {-1, 2, 3, Integer.MIN_VALUE, Integer.MAX_VALUE}) {
                t.is("fault(" + what + ")", t.x.fault(what), -1);
            }
            t.is("it has no STATUS", t.x.status(), 10);
        });
        Due.edge("promise 12: of the latest with STATUS 0 or 10", t -> {
            t.refuseYard(" ?", 1, 1);
            t.refused("yard(1)", 5, () -> t.x.yard(1));
            t.refused("days(1)", 5, () -> t.x.days(1));
            t.is("fault(0)", t.x.fault(0), 1);
            t.is("fault(1)", t.x.fault(1), 1);
            t.refuseDays("  end", 2, 2);
            t.good("days(0)", t.x.days(0), 0);
            t.is("fault(0): 0 without one", t.x.fault(0), 0);
            t.is("fault(1): NONE without", t.x.fault(1), -1);
        });
    }
}
