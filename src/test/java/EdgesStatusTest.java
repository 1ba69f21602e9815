import java.util.function.Consumer;

/** The edges that block 5 names, call by call (promises 13 to 32): STATUS, the first that holds, nothing is changed. */
public final class EdgesStatusTest {
    private static final int LOW = Integer.MIN_VALUE;
    private static final int HIGH = Integer.MAX_VALUE;

    public static void main(String[] args) {
        noStatusOfTheirOwn();
        zeroElse();
        many();
        ricks();
        sides();
        dogs();
        boys();
        copyLayers();
        copyLayersOrder();
        takeHourLast();
        netsAndGaps();
        moveAndSend();
        lean();
        Due.end();
    }

    /** A farm where something of each kind has happened, so that a change would be seen. */
    private static void busy(String sentence, Consumer<Due> test) {
        Due.farmEdge(sentence, t -> {
            t.x.mark();
            t.takeDays("take oat;hour;hour;", 3);
            t.x.live(7);
            t.x.cap(1);
            t.x.week(1);
            t.x.tray(0, 1, 3);
            t.x.write(0, 2, 77);
            t.x.bestNets(0, 2);
            t.x.bestPlaces(0, 2);
            t.x.bestOrder(2);
            t.x.share();
            test.accept(t);
        });
    }

    private static void noStatusOfTheirOwn() {
        busy("block 5: status(), fault(), feed(), top(), bottom() have none", t -> {
            t.bad("many(12)", t.x.many(12), 5);
            t.x.fault(0);
            t.x.fault(9);
            t.x.top();
            t.x.bottom();
            t.x.status();
            for (int i = 0; i < 46; i++) {
                t.x.feed(1, 2, 3, 4, 5);
            }
            t.is("status()", t.x.status(), 5);
        });
    }

    private static void zeroElse() {
        busy("block 5: 0 else", t -> {
            int[] statuses = {1, 2, 3, 4, 5, 8, 9};
            for (int status : statuses) {
                switch (status) {
                    case 1 -> t.x.read(4, 0);
                    case 2 -> t.x.rick(3, 0);
                    case 3 -> t.x.read(3, 0);
                    case 4 -> t.x.read(0, 3);
                    case 5 -> t.x.many(-1);
                    case 8 -> t.x.layer(0, 3);
                    default -> t.x.hour();
                }
                t.is("status()", t.x.status(), status);
                t.good("netted()", t.x.netted(), 0);
            }
        });
    }

    private static void many() {
        for (int what : new int[] {-1, 12, 13, LOW, HIGH}) {
            busy("promise 13: what 0 to 11; 5", t -> t.refused("many(" + what + ")", 5, () -> t.x.many(what)));
        }
        Due.farmEdge("promise 13: 8; 8: none", t -> {
            t.refused("many(8)", 8, () -> t.x.many(8));
            t.x.take(0);
            t.good("many(8)", t.x.many(8), 0);
        });
    }

    private static void ricks() {
        for (int rick : new int[] {-1, 3, 4, LOW, HIGH}) {
            busy("promises 14, 15, 23: 2", t -> {
                t.refused("rick", 2, () -> t.x.rick(rick, 0));
                t.refused("rick: 2 ahead of 5", 2, () -> t.x.rick(rick, 4));
                t.refused("layer", 2, () -> t.x.layer(rick, 0));
                t.refused("layer: 2 ahead of 8", 2, () -> t.x.layer(rick, 9));
                t.refused("take", 2, () -> t.x.take(rick));
                t.refused("copyLayers", 2, () -> t.x.copyLayers(rick, 0));
            });
        }
        for (int what : new int[] {-1, 4, LOW, HIGH}) {
            busy("promise 14: what 0 to 3; 5", t -> t.refused("rick", 5, () -> t.x.rick(2, what)));
        }
        for (int k : new int[] {-1, 1, 2, 8, LOW, HIGH}) {
            busy("promise 15: 8: no such", t -> t.refused("layer", 8, () -> t.x.layer(0, k)));
        }
        Due.farmEdge("promise 15: the k-th LAYER that is left, from the upper one on", t -> {
            t.good("the upper one", t.x.layer(0, 0), 4);
            t.good("the lowest one", t.x.layer(0, 2), 20);
            t.refused("none behind it", 8, () -> t.x.layer(0, 3));
            t.x.take(0);
            t.x.hour();
            t.good("the upper one of two", t.x.layer(0, 0), 10);
            t.refused("none behind the second", 8, () -> t.x.layer(0, 2));
        });
        Due.farmEdge("promise 14: a RICK without LAYERS is there still", t -> {
            t.x.take(2);
            t.x.last(1);
            int[] due = {99, 0, 0, 1};
            for (int what = 0; what < 4; what++) {
                t.good("rick(2, " + what + ")", t.x.rick(2, what), due[what]);
            }
            t.refused("layer(2, 0)", 8, () -> t.x.layer(2, 0));
        });
    }

    private static void sides() {
        for (int side : new int[] {-1, 3, 4, LOW, HIGH}) {
            busy("promise 16: 2, ahead of 5", t -> {
                t.refused("side", 2, () -> t.x.side(side, 0));
                t.refused("side", 2, () -> t.x.side(side, 2));
                t.refused("side", 2, () -> t.x.side(side, 4));
            });
        }
        for (int what : new int[] {-1, 4, LOW, HIGH}) {
            busy("promise 16: what 0 to 3; 5", t -> t.refused("side", 5, () -> t.x.side(0, what)));
        }
        busy("promise 16: 8: nowhere", t -> {
            t.refused("side(0, 2)", 8, () -> t.x.side(0, 2));
            t.good("side(1, 2)", t.x.side(1, 2), 1);
        });
    }

    private static void dogs() {
        for (int dog : new int[] {-1, 2, 4, LOW, HIGH}) {
            busy("promise 17: 2, ahead of 5", t -> {
                t.refused("dog", 2, () -> t.x.dog(dog, 0));
                t.refused("dog", 2, () -> t.x.dog(dog, 4));
            });
        }
        for (int what : new int[] {-1, 4, LOW, HIGH}) {
            busy("promise 17: what 0 to 3; 5", t -> t.refused("dog", 5, () -> t.x.dog(1, what)));
        }
    }

    private static void boys() {
        for (int boy : new int[] {-1, 1, 4, LOW, HIGH}) {
            busy("promise 18: 2, ahead of 5", t -> {
                t.refused("boy", 2, () -> t.x.boy(boy, 0));
                t.refused("boy", 2, () -> t.x.boy(boy, 3));
            });
        }
        for (int what : new int[] {-1, 3, LOW, HIGH}) {
            busy("promise 18: what 0 to 2; 5", t -> t.refused("boy", 5, () -> t.x.boy(0, what)));
        }
    }

    private static void copyLayers() {
        Due.farmEdge("promise 22: as many places as LAYERS", t -> {
            t.x.tray(0, 0, 3);
            t.good("copyLayers", t.x.copyLayers(0, 0), 3);
            int[] oat = {4, 6, 20};
            for (int i = 0; i < 3; i++) {
                t.good("the upper one first", t.x.read(0, i), oat[i]);
            }
        });
        Due.farmEdge("promise 22: 4: one place too few", t -> {
            t.x.tray(0, 0, 2);
            t.refused("copyLayers", 4, () -> t.x.copyLayers(0, 0));
            t.good("two LAYERS", t.x.copyLayers(1, 0), 2);
        });
        Due.farmEdge("promise 22: more places: the others stay", t -> {
            t.x.tray(0, 0, 60);
            t.x.write(0, 3, 5);
            t.good("copyLayers", t.x.copyLayers(0, 0), 3);
            t.good("the fourth place", t.x.read(0, 3), 5);
        });
        Due.farmEdge("promise 22: no LAYERS into no places", t -> {
            t.x.take(2);
            t.x.last(1);
            t.x.tray(0, 0, 0);
            t.good("copyLayers", t.x.copyLayers(2, 0), 0);
            t.refused("one is too many", 4, () -> t.x.copyLayers(1, 0));
        });
        Due.edge("promise 22: cut to the bits of the TRAY", t -> {
            t.takeYard("rick a holds 1 layers 99 99;breed 100;", 1);
            t.x.week(1);
            t.x.tray(0, 0, 2);
            t.good("copyLayers", t.x.copyLayers(0, 0), 2);
            t.good("198", t.x.read(0, 0), -58);
            t.x.week(99);
            t.x.tray(1, 1, 2);
            t.good("copyLayers", t.x.copyLayers(0, 1), 2);
            t.good("9,999", t.x.read(1, 1), 9999);
            t.good("copyLayers", t.x.copyLayers(0, 0), 2);
            t.good("9,999 in 8 bits", t.x.read(0, 1), (byte) 9999);
        });
        Due.edge("promise 22: eight LAYERS", t -> {
            t.takeYard("rick a holds 1 layers 1 2 3 4 5 6 7 8;", 1);
            t.x.tray(0, 0, 7);
            t.refused("into seven", 4, () -> t.x.copyLayers(0, 0));
            t.x.tray(0, 0, 8);
            t.good("into eight", t.x.copyLayers(0, 0), 8);
            t.good("the lowest", t.x.read(0, 7), 8);
        });
    }

    private static void copyLayersOrder() {
        Due.farmEdge("promise 22: 1; 3; 2; 4; asked in this order", t -> {
            t.x.tray(0, 0, 2);
            t.refused("1 ahead of 2", 1, () -> t.x.copyLayers(3, 4));
            t.refused("1", 1, () -> t.x.copyLayers(0, -1));
            t.refused("3 ahead of 2", 3, () -> t.x.copyLayers(3, 1));
            t.refused("3", 3, () -> t.x.copyLayers(0, 1));
            t.refused("2", 2, () -> t.x.copyLayers(3, 0));
            t.refused("4", 4, () -> t.x.copyLayers(0, 0));
        });
    }

    private static void takeHourLast() {
        busy("promises 24, 25: 9", t -> t.refused("hour() of one LAYER", 9, () -> t.x.hour()));
        for (int parts : new int[] {0, -1, 21, LOW, HIGH}) {
            Due.farmEdge("promise 25: 5 ahead of 8, 5 ahead of 9", t -> {
                t.refused("none AT HAND", 5, () -> t.x.last(parts));
                t.x.take(0);
                t.refused("three LAYERS", 5, () -> t.x.last(parts));
            });
        }
        Due.farmEdge("promise 25: 8, 9", t -> {
            t.refused("none AT HAND", 8, () -> t.x.last(20));
            t.x.take(0);
            t.refused("three LAYERS", 9, () -> t.x.last(20));
        });
    }

    private static void netsAndGaps() {
        for (int side : new int[] {-1, 3, 4, LOW, HIGH}) {
            busy("promises 26, 27: 2", t -> {
                t.denied("net", 2, () -> t.x.net(side));
                t.denied("gap", 2, () -> t.x.gap(side));
            });
        }
        busy("promises 26, 27: 9: there is one", t -> {
            t.denied("net(2)", 9, () -> t.x.net(2));
            t.denied("gap(0)", 9, () -> t.x.gap(0));
            t.good("gap(2)", t.x.gap(2));
            t.denied("gap(2)", 9, () -> t.x.gap(2));
            t.good("net(2)", t.x.net(2));
            t.denied("net(2)", 9, () -> t.x.net(2));
        });
    }

    private static void moveAndSend() {
        for (int none : new int[] {-1, 3, 4, LOW, HIGH}) {
            busy("promises 28, 29: 2", t -> {
                t.denied("move: no such DOG", 2, () -> t.x.move(none, 0));
                t.denied("move: no such SIDE", 2, () -> t.x.move(0, none));
                t.denied("send: no such BOY", 2, () -> t.x.send(none, 0));
                t.denied("send: no such SIDE", 2, () -> t.x.send(0, none));
            });
        }
        busy("promises 28, 29: the last DOG, BOY, SIDE", t -> {
            t.denied("DOG 2", 2, () -> t.x.move(2, 0));
            t.denied("BOY 1", 2, () -> t.x.send(1, 0));
            t.good("move(1, 2)", t.x.move(1, 2));
            t.good("AT", t.x.dog(1, 0), 2);
            t.good("send(0, 2)", t.x.send(0, 2));
            t.good("AT", t.x.boy(0, 0), 2);
            t.good("where it is", t.x.move(1, 2));
            t.good("where he is", t.x.send(0, 2));
        });
    }

    private static void lean() {
        for (int side : new int[] {-1, 3, 4, LOW, HIGH}) {
            busy("promise 30: 2, ahead of 5", t -> {
                t.denied("lean", 2, () -> t.x.lean(side, 1));
                t.denied("lean", 2, () -> t.x.lean(side, 10));
            });
        }
        for (int weight : new int[] {-1, 10, LOW, HIGH}) {
            busy("promise 30: WEIGHT (0 to 9); 5", t -> t.denied("lean", 5, () -> t.x.lean(0, weight)));
        }
        busy("promise 30: WEIGHT 0 and 9", t -> {
            t.good("lean(0, 0)", t.x.lean(0, 0));
            t.good("WEIGHT", t.x.side(0, 0), 0);
            t.good("lean(0, 9)", t.x.lean(0, 9));
            t.good("WEIGHT", t.x.side(0, 0), 9);
            t.good("as it is", t.x.lean(0, 9));
        });
    }
}
