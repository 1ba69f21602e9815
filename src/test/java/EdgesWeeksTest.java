/** The edges that block 3 and promises 46 to 51 name: WEEKS to come, CAPS, told RUNS. */
public final class EdgesWeeksTest {
    private static final int[] NO_FARM_RICK = {-1, 3, 4, Integer.MIN_VALUE, Integer.MAX_VALUE};

    public static void main(String[] args) {
        refused();
        later();
        backTo();
        eaten();
        capsPay();
        capsPayRefused();
        cap();
        tellsHolds();
        tellsFullLayers();
        tellsAsItIsNow();
        tellsRefused();
        tellsOrder();
        Due.end();
    }

    private static Due yard(String about, String text, int ricks) {
        Due t = new Due(about);
        t.takeYard(text, ricks);
        return t;
    }

    private static void refused() {
        for (int rick : NO_FARM_RICK) {
            Due.farmEdge("promises 46 to 50: 2, ahead of 5", t -> {
                t.refused("later", 2, () -> t.x.later(rick, -1));
                t.refused("backTo", 2, () -> t.x.backTo(rick, -1));
                t.refused("eaten", 2, () -> t.x.eaten(rick, 1000));
                t.refused("capsPay", 2, () -> t.x.capsPay(rick));
                t.refused("cap", 2, () -> t.x.cap(rick));
            });
        }
        for (int weeks : new int[] {-1, 1000, Integer.MIN_VALUE, Integer.MAX_VALUE}) {
            Due.farmEdge("promises 46, 48: WEEKS (0 to 999); 5", t -> {
                t.refused("later", 5, () -> t.x.later(0, weeks));
                t.refused("eaten", 5, () -> t.x.eaten(0, weeks));
            });
        }
        for (int n : new int[] {-1, 10000, Integer.MIN_VALUE, Integer.MAX_VALUE}) {
            Due.farmEdge("promise 47: n (0 to 9,999); 5", t -> t.refused("backTo", 5, () -> t.x.backTo(0, n)));
        }
    }

    private static void later() {
        Due full = yard("promise 46: 9,999 a LAYER at most", "rick a holds 0 layers 99 1 0;breed 100;", 1);
        full.good("0 WEEKS: as it is", full.x.later(0, 0), 100);
        full.good("7 WEEKS", full.x.later(0, 7), 9999 + 128);
        full.good("13 WEEKS", full.x.later(0, 13), 9999 + 8192);
        full.good("14 WEEKS", full.x.later(0, 14), 2 * 9999);
        full.good("999 WEEKS", full.x.later(0, 999), 2 * 9999);
        full.x.take(0);
        full.good("one AT HAND now stays so", full.x.later(0, 999), 100);
        Due.farmEdge("promise 46: one without LAYERS", t -> {
            t.x.take(2);
            t.x.last(1);
            t.good("later(2, 999)", t.x.later(2, 999), 0);
        });
        Due.farmEdge("a WEEK: in one with CAPS none come", t -> {
            t.good("later(2, 999)", t.x.later(2, 999), 7);
            t.x.cap(1);
            t.good("later(1, 999)", t.x.later(1, 999), 12);
        });
        Due.farmEdge("promise 46: as week() brings it", t -> {
            int later = t.x.later(1, 99);
            t.x.week(99);
            t.good("rick(1, 2)", t.x.rick(1, 2), later);
        });
    }

    private static void backTo() {
        Due.farmEdge("BACK: n RATS at least", t -> {
            t.good("n 0", t.x.backTo(1, 0), 0);
            t.good("as many as there are", t.x.backTo(1, 12), 0);
            t.good("one more", t.x.backTo(1, 13), 1);
            t.good("as many as come", t.x.backTo(1, 17), 1);
            t.good("one more", t.x.backTo(1, 18), 2);
            t.refused("in one with CAPS", 8, () -> t.x.backTo(2, 8));
            t.x.take(1);
            t.refused("in one AT HAND", 8, () -> t.x.backTo(1, 13));
            t.good("as many as there are", t.x.backTo(1, 12), 0);
        });
        // from 100 on one comes each week, from 200 on two, and so on: no rick can need longer
        Due slow = yard("BACK: (0 to 999): as slowly as RATS can come", "rick a holds 0 layers 1;rick b holds 0 layers 99;"
                + "side s weight 1 to b;breed 1;", 2);
        slow.refused("of 99 none come in 999", 8, () -> slow.x.backTo(1, 100));
        slow.x.take(0);
        slow.x.last(1);
        slow.good("n 200", slow.x.backTo(1, 200), 100);
        slow.good("n 9,999", slow.x.backTo(1, 9999), 520);
        slow.good("a WEEK less", slow.x.later(1, 519) < 9999 ? 1 : 0, 1);
        Due most = yard("BACK: n 9,999 of two LAYERS", "rick a holds 0 layers 99 99;breed 100;", 1);
        most.good("6,336 each", most.x.backTo(0, 9999), 6);
        most.x.take(0);
        most.refused("8: not in 999", 8, () -> most.x.backTo(0, 9999));
        Due gone = yard("BACK: one without LAYERS", "rick a holds 0 layers 9;breed 100;", 1);
        gone.x.take(0);
        gone.x.last(1);
        gone.good("n 0", gone.x.backTo(0, 0), 0);
        gone.refused("n 1", 8, () -> gone.x.backTo(0, 1));
    }

    private static void eaten() {
        Due.farmEdge("EATEN in w WEEKS: at its beginning", t -> {
            t.good("0 WEEKS", t.x.eaten(1, 0), 0);
            t.good("the first WEEK", t.x.eaten(1, 1), 36);
            t.good("the second, too", t.x.eaten(1, 2), 87);
        });
        Due most = yard("promise 48: 999 WEEKS", "rick a holds 0 layers 99 99 99 99 99 99 99 99;corn 9;breed 100;", 1);
        most.x.week(99);
        most.good("eaten(0, 999)", most.x.eaten(0, 999), 9L * 8 * 9999 * 999);
        most.good("eaten(0, 998)", most.x.eaten(0, 998), 9L * 8 * 9999 * 998);
        Due none = yard("promise 48: CORN 0", "rick a holds 0 layers 99;corn 0;", 1);
        none.good("eaten(0, 999)", none.x.eaten(0, 999), 0);
        Due.farmEdge("promise 48: one without LAYERS", t -> {
            t.x.take(2);
            t.x.last(1);
            t.good("eaten(2, 999)", t.x.eaten(2, 999), 0);
        });
    }

    private static void capsPay() {
        Due nothing = yard("CAPS PAY: COST 0", "rick a holds 0 layers 0;", 1);
        nothing.good("capsPay(0)", nothing.x.capsPay(0), 0);
        Due exact = yard("CAPS PAY: no less than COST", "rick a holds 0 layers 10;breed 100;cost 70;", 1);
        exact.good("10, 20 and 40 are 70", exact.x.capsPay(0), 3);
        Due above = yard("CAPS PAY: one more than that", "rick a holds 0 layers 10;breed 100;cost 71;", 1);
        above.good("and 80", above.x.capsPay(0), 4);
        Due longest = yard("CAPS PAY: in 999 WEEKS", "rick a holds 0 layers 1;cost 999;", 1);
        longest.good("capsPay(0)", longest.x.capsPay(0), 999);
        Due shorter = yard("CAPS PAY: in 998 WEEKS", "rick a holds 0 layers 1;cost 998;", 1);
        shorter.good("capsPay(0)", shorter.x.capsPay(0), 998);
        Due hand = yard("CAPS PAY: one AT HAND now stays so", "rick a holds 0 layers 10;breed 100;cost 70;", 1);
        hand.x.take(0);
        hand.good("capsPay(0)", hand.x.capsPay(0), 7);
    }

    private static void capsPayRefused() {
        Due rats = yard("promise 49: 8: not in 999: no RATS", "rick a holds 0 layers 0;cost 1;", 1);
        rats.refused("capsPay(0)", 8, () -> rats.x.capsPay(0));
        Due corn = yard("promise 49: 8: not in 999: no CORN", "rick a holds 0 layers 99;corn 0;breed 100;cost 1;", 1);
        corn.refused("capsPay(0)", 8, () -> corn.x.capsPay(0));
        Due gone = yard("promise 49: 8: not in 999: no LAYERS", "rick a holds 0 layers 9;cost 1;", 1);
        gone.x.take(0);
        gone.x.last(1);
        gone.refused("capsPay(0)", 8, () -> gone.x.capsPay(0));
        Due.farmEdge("promise 49: 9: it has CAPS", t -> {
            t.refused("capsPay(2)", 9, () -> t.x.capsPay(2));
            t.x.cap(1);
            t.refused("capsPay(1)", 9, () -> t.x.capsPay(1));
        });
        Due both = yard("block 5: the first of these that holds: 8 ahead of 9", "rick a holds 0 layers 0 caps;cost 1;", 1);
        both.refused("capsPay(0)", 8, () -> both.x.capsPay(0));
    }

    private static void cap() {
        for (int cost : new int[] {0, 1, 999}) {
            Due t = yard("promise 50: PENCE that were spent on CAPS in all", "rick a holds 0 layers 1;rick b holds 0 layers 1 caps;"
                    + "rick c holds 0 layers 1;rick d holds 0 layers 1;cost " + cost + ";", 4);
            t.good("cap(0)", t.x.cap(0), cost);
            t.refused("9: it has", 9, () -> t.x.cap(0));
            t.refused("9: it had them ahead", 9, () -> t.x.cap(1));
            t.good("cap(2)", t.x.cap(2), 2 * cost);
            t.good("cap(3)", t.x.cap(3), 3 * cost);
            t.good("CAPS", t.x.rick(0, 3) + t.x.rick(1, 3) + t.x.rick(2, 3) + t.x.rick(3, 3), 4);
        }
        Due gone = yard("promise 50: one without LAYERS", "rick a holds 0 layers 1;cost 5;", 1);
        gone.x.take(0);
        gone.x.last(1);
        gone.good("cap(0)", gone.x.cap(0), 5);
    }

    /** The TRAY 3 is told of RICK 0: the least, the greatest, how many HOLDS. */
    private static void told(Due t, long[] runs, int... due) {
        t.x.tray(3, 3, runs.length);
        for (int i = 0; i < runs.length; i++) {
            t.x.write(3, i, runs[i]);
        }
        for (int what = 0; what < 3; what++) {
            t.good("tells, what " + what, t.x.tells(0, 3, runs.length, what), due[what]);
        }
    }

    private static void tellsNone(Due t, long... runs) {
        t.x.tray(3, 3, runs.length);
        for (int i = 0; i < runs.length; i++) {
            t.x.write(3, i, runs[i]);
        }
        for (int what = 0; what < 3; what++) {
            int asked = what;
            t.refused("tells, what " + what, 8, () -> t.x.tells(0, 3, runs.length, asked));
        }
    }

    private static void tellsHolds() {
        Due empty = yard("TELLS: HOLDS (0 to 99): any", "rick a holds 50 layers 0 0;", 1);
        told(empty, new long[] {0}, 0, 99, 100);
        tellsNone(empty, 1);
        Due t = yard("TELLS: which HOLDS a RICK could have", "rick a holds 50 layers 4 6 20;", 1);
        told(t, new long[] {10}, 0, 0, 1);
        told(t, new long[] {9}, 1, 1, 1);
        told(t, new long[] {1}, 9, 9, 1);
        told(t, new long[] {0}, 10, 99, 90);
        tellsNone(t, 11);
        told(t, new long[] {10, 20}, 0, 0, 1);
        told(t, new long[] {0, 0}, 30, 99, 70);
        told(t, new long[] {0, 1}, 29, 29, 1);
        told(t, new long[] {0, 20}, 10, 10, 1);
        tellsNone(t, 0, 21);
        tellsNone(t, 1, 19);
        tellsNone(t, 9999, 9999);
        Due full = yard("TELLS: HOLDS not above 99", "rick a holds 0 layers 99 99;", 1);
        told(full, new long[] {99}, 99, 99, 1);
        tellsNone(full, 98);
        tellsNone(full, 0);
        told(full, new long[] {198}, 0, 0, 1);
        tellsNone(full, 199);
        Due eight = yard("TELLS: eight LAYERS, seven HOURS", "rick a holds 9 layers 1 1 1 1 1 1 1 1;", 1);
        told(eight, new long[] {0, 0, 0, 0, 0, 0, 0}, 8, 99, 92);
        told(eight, new long[] {0, 0, 0, 0, 0, 0, 1}, 7, 7, 1);
        told(eight, new long[] {2, 1, 1, 1, 1, 1, 1}, 0, 0, 1);
    }

    private static void tellsFullLayers() {
        Due t = yard("TELLS: each LAYER has 9,999 RATS at most", "rick a holds 50 layers 99 99 99;breed 100;", 1);
        t.x.week(7);
        told(t, new long[] {9999, 9999}, 0, 0, 1);
        told(t, new long[] {9900, 9900}, 99, 99, 1);
        tellsNone(t, 9899);
        t.x.take(0);
        t.good("hour()", t.x.hour(), 9949);
        told(t, new long[] {9949}, 50, 50, 1);
    }

    private static void tellsAsItIsNow() {
        Due nets = yard("TELLS: those that go back by NETS not minded", "rick a holds 3 layers 4 6 20;side s weight 1 net;", 1);
        told(nets, new long[] {7, 20}, 3, 3, 1);
        nets.x.take(0);
        nets.good("hour()", nets.x.hour(), 7);
        nets.good("10 with those that came back", nets.x.layer(0, 0), 10);
        told(nets, new long[] {27}, 3, 3, 1);
        nets.x.hour();
        nets.refused("one LAYER is left", 5, () -> nets.x.tells(0, 3, 1, 0));
        Due own = yard("TELLS: none comes in", "rick a holds 0 layers 4 6 20;side s weight 1 to a;", 1);
        told(own, new long[] {10, 20}, 0, 0, 1);
        own.x.take(0);
        own.x.hour();
        own.good("hour()", own.x.hour(), 30);
    }

    /** TRAY 0: 0, 20, 0, 0 and 9; TRAY 1: none; the others are MISSING. */
    private static void trays(Due t) {
        t.x.tray(0, 3, 5);
        t.x.write(0, 1, 20);
        t.x.write(0, 4, 9);
        t.x.tray(1, 0, 0);
    }

    private static void tellsRefused() {
        for (int rick : NO_FARM_RICK) {
            Due.farmEdge("promise 51: 2", t -> {
                trays(t);
                t.refused("tells", 2, () -> t.x.tells(rick, 0, 1, 0));
            });
        }
        for (int n : new int[] {0, -1, 3, 5, Integer.MIN_VALUE}) {
            Due.farmEdge("promise 51: n 1 to its LAYERS less 1", t -> {
                trays(t);
                t.refused("n " + n, 5, () -> t.x.tells(0, 0, n, 0));
                t.good("n 1", t.x.tells(0, 0, 1, 0), 10);
                t.good("n 2", t.x.tells(0, 0, 2, 0), 10);
                t.refused("n 1 of one LAYER", 5, () -> t.x.tells(2, 0, 1, 0));
            });
        }
        for (int n : new int[] {6, 60, Integer.MAX_VALUE}) {
            Due.farmEdge("promise 51: 4 too few numbers, ahead of 5", t -> {
                trays(t);
                t.refused("n " + n, 4, () -> t.x.tells(0, 0, n, 0));
                t.refused("n 1 of none", 4, () -> t.x.tells(0, 1, 1, 0));
                t.refused("n 0 of none", 5, () -> t.x.tells(0, 1, 0, 0));
            });
        }
        for (int what : new int[] {-1, 3, Integer.MIN_VALUE, Integer.MAX_VALUE}) {
            Due.farmEdge("promise 51: what 0, 1, 2; 5", t -> {
                trays(t);
                t.refused("what " + what, 5, () -> t.x.tells(0, 0, 2, what));
            });
        }
        for (long run : new long[] {-1, 10000, Long.MIN_VALUE, Long.MAX_VALUE, 1L << 32}) {
            Due.farmEdge("promise 51: 5: also a RUN not 0 to 9,999", t -> {
                trays(t);
                t.x.write(0, 2, run);
                t.good("a third one is not asked", t.x.tells(0, 0, 2, 2), 1);
                t.x.write(0, 1, run);
                t.refused("a second one", 5, () -> t.x.tells(0, 0, 2, 0));
                t.good("nor a second one", t.x.tells(0, 0, 1, 2), 90);
                t.x.write(0, 0, run);
                t.refused("a first one", 5, () -> t.x.tells(0, 0, 1, 0));
            });
        }
        Due.farmEdge("promise 51: a RUN of 9,999 can be: 8: none", t -> {
            trays(t);
            t.x.write(0, 0, 9999);
            t.refused("tells", 8, () -> t.x.tells(0, 0, 1, 0));
        });
        Due.farmEdge("promise 51: no LAYERS are left", t -> {
            trays(t);
            t.x.take(2);
            t.x.last(1);
            t.refused("n 0", 5, () -> t.x.tells(2, 0, 0, 0));
            t.refused("n -1", 5, () -> t.x.tells(2, 0, -1, 0));
            t.refused("n 1", 5, () -> t.x.tells(2, 0, 1, 0));
        });
    }

    private static void tellsOrder() {
        Due.farmEdge("promise 51: 1, 2, 3, 4, 5, 8 in this order", t -> {
            trays(t);
            t.refused("1 ahead of 2", 1, () -> t.x.tells(9, 4, 99, 9));
            t.refused("2 ahead of 3", 2, () -> t.x.tells(9, 2, 99, 9));
            t.refused("3 ahead of 4", 3, () -> t.x.tells(0, 2, 99, 9));
            t.refused("3 ahead of 5", 3, () -> t.x.tells(0, 2, 0, 9));
            t.refused("4 ahead of 5", 4, () -> t.x.tells(0, 0, 6, 9));
            t.x.write(0, 0, 9999);
            t.refused("5 ahead of 8", 5, () -> t.x.tells(0, 0, 1, 9));
        });
    }
}
