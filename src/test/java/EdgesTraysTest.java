/** The edges that block 1 and promises 1 to 8 name: TRAYS, STATUS, the FRACTION; a new object for each sentence. */
public final class EdgesTraysTest {
    private static final int[] NO_TRAYS = {-1, 4, 5, Integer.MIN_VALUE, Integer.MAX_VALUE};

    public static void main(String[] args) {
        newObject();
        whichTrays();
        bits();
        lengths();
        places();
        pourEdges();
        pourRefused();
        pourOrder();
        Due.end();
    }

    private static void newObject() {
        Due.edge("promise 1: STATUS 0", t -> t.is("status()", t.x.status(), 0));
        Due.edge("promise 1: the FRACTION 0 by 1", t -> t.fraction(0, 1));
        Due.edge("promise 1: an empty tape", t -> t.is("feed()", t.x.feed(1, 2, 3, 4, 5), 20));
        Due.edge("promise 1: an empty tape", t -> t.refused("yard(1)", 5, () -> t.x.yard(1)));
        Due.edge("promise 1: an empty tape", t -> t.refused("days(1)", 5, () -> t.x.days(1)));
        Due.edge("promise 1: no DAYS", t -> t.refused("live(0)", 8, () -> t.x.live(0)));
        Due.edge("promise 1: no DAYS", t -> t.denied("mean(0, 1)", 8, () -> t.x.mean(0, 1)));
        Due.edge("promise 1: no MARKS", t -> t.refused("back()", 8, () -> t.x.back()));
        Due.edge("promise 1: a YARD of nothing", t -> {
            int[] due = {0, 0, 0, 0, 1, 1, 0, 0, -1, 0, 0, 0};
            for (int what = 0; what < 12; what++) {
                t.is("many(" + what + ")", t.x.many(what), due[what]);
            }
            t.refused("rick(0, 0)", 2, () -> t.x.rick(0, 0));
            t.refused("side(0, 0)", 2, () -> t.x.side(0, 0));
            t.refused("dog(0, 0)", 2, () -> t.x.dog(0, 0));
            t.refused("boy(0, 0)", 2, () -> t.x.boy(0, 0));
        });
        Due.edge("promise 2: of the latest call that has one", t -> {
            t.x.take(0);
            t.x.fault(0);
            t.x.top();
            t.x.bottom();
            t.x.feed(0, 0, 0, 0, 0);
            t.is("status()", t.x.status(), 2);
            t.is("status() behind itself", t.x.status(), 2);
        });
    }

    private static void whichTrays() {
        Due.edge("block 1: TRAYS are MISSING at first", t -> {
            for (int tray = 0; tray < 4; tray++) {
                int here = tray;
                t.refused("read", 3, () -> t.x.read(here, 0));
                t.denied("write", 3, () -> t.x.write(here, 0, 0));
                t.denied("pour", 3, () -> t.x.pour(here, 0, here, 0, 0));
            }
        });
        Due.edge("block 1: TRAYS, 0 to 3", t -> {
            for (int tray = 0; tray < 4; tray++) {
                t.good("tray " + tray, t.x.tray(tray, 0, 1));
                t.good("write", t.x.write(tray, 0, tray + 1));
            }
            for (int tray = 0; tray < 4; tray++) {
                t.good("each has its own numbers", t.x.read(tray, 0), tray + 1);
            }
        });
        for (int tray : NO_TRAYS) {
            Due.farmEdge("block 5: 1 no such TRAY", t -> {
                t.x.tray(0, 0, 3);
                t.denied("tray", 1, () -> t.x.tray(tray, 0, 1));
                t.denied("write", 1, () -> t.x.write(tray, 0, 1));
                t.refused("read", 1, () -> t.x.read(tray, 0));
                t.denied("pour from it", 1, () -> t.x.pour(tray, 0, 0, 0, 0));
                t.denied("pour to it", 1, () -> t.x.pour(0, 0, tray, 0, 0));
                t.refused("copyLayers", 1, () -> t.x.copyLayers(0, tray));
                t.refused("tells", 1, () -> t.x.tells(0, tray, 1, 0));
            });
            Due.edge("block 5: 1 (or sort)", t -> t.denied("tray", 1, () -> t.x.tray(0, tray, 1)));
        }
    }

    private static void bits() {
        long[] most = {127, 32767, 2147483647L, Long.MAX_VALUE};
        for (int sort = 0; sort < 4; sort++) {
            int here = sort;
            Due.edge("block 1: with sign; what is written is cut to these", t -> {
                t.x.tray(0, here, 1);
                long[] written = {most[here], most[here] + 1, -most[here] - 1, -most[here] - 2, -1, 0};
                long[] read = {most[here], -most[here] - 1, -most[here] - 1, most[here], -1, 0};
                for (int i = 0; i < written.length; i++) {
                    t.good("write " + written[i], t.x.write(0, 0, written[i]));
                    t.good("read of sort " + here, t.x.read(0, 0), read[i]);
                }
            });
        }
        Due.edge("promise 7: STATUS tells NONE from -1", t -> {
            t.x.tray(0, 0, 1);
            t.x.write(0, 0, -1);
            t.good("read", t.x.read(0, 0), -1);
            t.refused("read", 4, () -> t.x.read(0, 1));
        });
    }

    private static void lengths() {
        Due.edge("promise 5: at most 60", t -> {
            t.good("60", t.x.tray(0, 0, 60));
            t.good("the last place", t.x.read(0, 59), 0);
            t.refused("one behind it", 4, () -> t.x.read(0, 60));
        });
        for (int many : new int[] {61, 62, Integer.MAX_VALUE}) {
            Due.edge("promise 5: at most 60; 5", t -> t.denied("tray", 5, () -> t.x.tray(0, 0, many)));
        }
        for (int many : new int[] {-1, -60, Integer.MIN_VALUE}) {
            Due.edge("block 5: 6 below 0 (a TRAY's length)", t -> t.denied("tray", 6, () -> t.x.tray(0, 0, many)));
        }
        Due.edge("promise 5: a row of none", t -> {
            t.good("tray", t.x.tray(0, 0, 0));
            t.refused("read", 4, () -> t.x.read(0, 0));
            t.denied("write", 4, () -> t.x.write(0, 0, 1));
            t.good("nothing is poured", t.x.pour(0, 0, 0, 0, 0));
            t.denied("one is not", 4, () -> t.x.pour(0, 0, 0, 0, 1));
        });
        Due.edge("promise 5: all 0", t -> {
            t.x.tray(0, 3, 60);
            for (int i = 0; i < 60; i++) {
                t.x.write(0, i, -1);
            }
            t.good("shorter", t.x.tray(0, 3, 2));
            t.good("longer again", t.x.tray(0, 3, 60));
            for (int i = 0; i < 60; i++) {
                t.good("read", t.x.read(0, i), 0);
            }
        });
        Due.edge("block 5: a refused call leaves the TRAY as it was", t -> {
            t.x.tray(0, 1, 2);
            t.x.write(0, 1, 300);
            t.denied("61", 5, () -> t.x.tray(0, 0, 61));
            t.denied("-1", 6, () -> t.x.tray(0, 0, -1));
            t.denied("sort 4", 1, () -> t.x.tray(0, 4, 1));
            t.good("its number", t.x.read(0, 1), 300);
            t.good("its sort", t.x.write(0, 0, 32767) && t.x.read(0, 0) == 32767);
        });
        Due.edge("promise 5: 1 ahead of 5", t -> t.denied("tray", 1, () -> t.x.tray(4, 0, 61)));
        Due.edge("promise 5: 1 ahead of 6", t -> t.denied("tray", 1, () -> t.x.tray(0, -1, -1)));
    }

    private static void places() {
        for (int place : new int[] {-1, 3, 60, Integer.MIN_VALUE, Integer.MAX_VALUE}) {
            Due.edge("block 5: 4 a place that the TRAY has not", t -> {
                t.x.tray(2, 2, 3);
                t.denied("write", 4, () -> t.x.write(2, place, 7));
                t.refused("read", 4, () -> t.x.read(2, place));
            });
            Due.edge("promises 6, 7: 3 ahead of 4", t -> {
                t.denied("write", 3, () -> t.x.write(2, place, 7));
                t.refused("read", 3, () -> t.x.read(2, place));
            });
        }
        Due.edge("promise 6: the first place and the last one", t -> {
            t.x.tray(1, 0, 3);
            t.good("write", t.x.write(1, 0, 5));
            t.good("write", t.x.write(1, 2, 6));
            t.good("read", t.x.read(1, 0), 5);
            t.good("read", t.x.read(1, 1), 0);
            t.good("read", t.x.read(1, 2), 6);
        });
    }

    /** TRAY 0: 1 to 60; TRAY 1: of the same sort, three numbers; TRAY 2: of another sort; TRAY 3 is MISSING. */
    private static void rows(Due t) {
        t.x.tray(0, 1, 60);
        for (int i = 0; i < 60; i++) {
            t.x.write(0, i, i + 1);
        }
        t.x.tray(1, 1, 3);
        t.x.tray(2, 2, 3);
    }

    private static void pourEdges() {
        Due.edge("promise 8: or the same, as they were (upwards)", t -> {
            rows(t);
            t.good("pour", t.x.pour(0, 0, 0, 1, 59));
            for (int i = 0; i < 60; i++) {
                t.good("read", t.x.read(0, i), Math.max(i, 1));
            }
        });
        Due.edge("promise 8: or the same, as they were (downwards)", t -> {
            rows(t);
            t.good("pour", t.x.pour(0, 1, 0, 0, 59));
            for (int i = 0; i < 60; i++) {
                t.good("read", t.x.read(0, i), Math.min(i + 2, 60));
            }
        });
        Due.edge("promise 8: all of a TRAY to itself", t -> {
            rows(t);
            t.good("pour", t.x.pour(0, 0, 0, 0, 60));
            t.good("read", t.x.read(0, 59), 60);
        });
        Due.edge("promise 8: up to the last place of both", t -> {
            rows(t);
            t.good("pour", t.x.pour(0, 57, 1, 0, 3));
            for (int i = 0; i < 3; i++) {
                t.good("read", t.x.read(1, i), 58 + i);
            }
        });
        Due.edge("promise 8: no number at all", t -> {
            rows(t);
            t.good("at the beginning", t.x.pour(0, 0, 1, 0, 0));
            t.good("behind the last place", t.x.pour(0, 60, 1, 3, 0));
            t.good("nothing came", t.x.read(1, 0) + t.x.read(1, 1) + t.x.read(1, 2), 0);
        });
    }

    private static void pourRefused() {
        int[][] wrong = {{-1, 0, 1}, {0, -1, 1}, {60, 0, 1}, {0, 3, 1}, {58, 0, 3}, {0, 1, 3}, {0, 0, 4}, {61, 0, 0},
            {0, 4, 0}, {-1, 0, 0}, {0, -1, 0}, {0, 0, 61}, {0, 0, Integer.MAX_VALUE}, {1, 1, Integer.MAX_VALUE},
            {Integer.MAX_VALUE, 0, 1}, {0, Integer.MAX_VALUE, 1}, {Integer.MIN_VALUE, 0, 1},
            {Integer.MAX_VALUE, Integer.MAX_VALUE, Integer.MAX_VALUE}};
        for (int[] w : wrong) {
            Due.edge("promise 8: 4 a place that the TRAY has not, or too few numbers", t -> {
                rows(t);
                t.denied("pour " + w[0] + " " + w[1] + " " + w[2], 4, () -> t.x.pour(0, w[0], 1, w[1], w[2]));
            });
        }
        for (int many : new int[] {-1, Integer.MIN_VALUE}) {
            Due.edge("promise 8: 6 below 0", t -> {
                rows(t);
                t.denied("pour", 6, () -> t.x.pour(0, 0, 1, 0, many));
            });
        }
    }

    private static void pourOrder() {
        Due.edge("promise 8: 1, 3 (either), 11, 6, 4, asked in this order", t -> {
            rows(t);
            t.denied("1 ahead of 3", 1, () -> t.x.pour(4, 0, 3, 0, 1));
            t.denied("1 ahead of 3", 1, () -> t.x.pour(3, 0, 4, 0, 1));
            t.denied("1 ahead of 6", 1, () -> t.x.pour(0, 0, -1, 0, -1));
            t.denied("3: from a missing one", 3, () -> t.x.pour(3, 0, 0, 0, 1));
            t.denied("3: to a missing one", 3, () -> t.x.pour(0, 0, 3, 0, 1));
            t.denied("3 ahead of 6", 3, () -> t.x.pour(0, 0, 3, 0, -1));
            t.denied("3 ahead of 4", 3, () -> t.x.pour(3, 99, 0, 99, 1));
            t.denied("11: even of no number", 11, () -> t.x.pour(0, 0, 2, 0, 0));
            t.denied("11 ahead of 6", 11, () -> t.x.pour(0, 0, 2, 0, -1));
            t.denied("11 ahead of 4", 11, () -> t.x.pour(0, 99, 2, 0, 1));
            t.denied("6 ahead of 4", 6, () -> t.x.pour(0, -1, 1, -1, -1));
        });
    }
}
