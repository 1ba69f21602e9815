/** The edges that block 3 and promises 33 to 45 name: what WOULD be, of several the first, what there is none of. */
public final class EdgesWouldTest {
    private static final int[] NO_PARTS = {0, -1, 21, Integer.MIN_VALUE, Integer.MAX_VALUE};
    private static final int[] NO_FARM_RICK = {-1, 3, 4, Integer.MIN_VALUE, Integer.MAX_VALUE};

    public static void main(String[] args) {
        toSide();
        run();
        whole();
        wholeRefused();
        fewestNets();
        netSet();
        places();
        placesRefused();
        order();
        orderRefused();
        slowly();
        dearest();
        proudest();
        tired();
        allElseAsItIs();
        Due.end();
    }

    private static Due yard(String about, String text, int ricks) {
        Due t = new Due(about);
        t.takeYard(text, ricks);
        return t;
    }

    private static void toSide() {
        Due.farmEdge("promise 33: of n RATS (0 to 9,999)", t -> {
            t.good("toSide(0, 0)", t.x.toSide(0, 0), 0);
            t.good("toSide(9999, 2)", t.x.toSide(9999, 2), 1666);
            for (int n : new int[] {-1, 10000, Integer.MIN_VALUE, Integer.MAX_VALUE}) {
                t.refused("toSide(" + n + ", 0)", 5, () -> t.x.toSide(n, 0));
                t.refused("2 ahead of 5", 2, () -> t.x.toSide(n, 3));
            }
        });
        Due.farmEdge("promise 33: a NET does not turn them yet", t -> t.good("toSide(6, 2)", t.x.toSide(6, 2), 1));
    }

    private static void run() {
        Due.farmEdge("promise 34: a RUN of n (0 to 999)", t -> {
            for (int what = 0; what < 3; what++) {
                t.good("run(0)", t.x.run(0, false, what), 0);
                t.good("run(0), the LAST", t.x.run(0, true, what), 0);
            }
            // 500, 333, 166 and one for the first
            t.good("run(999): caught", t.x.run(999, false, 0), 7);
            t.good("run(999): OFF", t.x.run(999, false, 1), 826);
            t.good("run(999): back", t.x.run(999, false, 2), 166);
            t.good("run(999), the LAST: back", t.x.run(999, true, 2), 0);
            t.good("run(999), the LAST: OFF", t.x.run(999, true, 1), 992);
            for (int n : new int[] {-1, 1000, Integer.MIN_VALUE, Integer.MAX_VALUE}) {
                t.refused("run(" + n + ")", 5, () -> t.x.run(n, false, 0));
            }
            for (int what : new int[] {-1, 3, Integer.MIN_VALUE, Integer.MAX_VALUE}) {
                t.refused("what " + what, 5, () -> t.x.run(1, false, what));
            }
        });
        Due.edge("promise 34: a YARD of nothing", t -> {
            t.good("caught", t.x.run(999, false, 0), 0);
            t.good("OFF", t.x.run(999, false, 1), 999);
            t.good("back", t.x.run(999, false, 2), 0);
        });
        Due.farmEdge("promise 34: a RUN now, by DOGS as TIRED as they are", t -> {
            t.x.take(0);
            t.x.hour();
            t.x.hour();
            t.x.last(4);
            t.good("nip is TIRED", t.x.tired(), 1);
            t.good("tom and big are not", t.x.run(999, false, 0), 4);
            t.good("what was caught ahead does not count", t.x.run(0, false, 0), 0);
        });
    }

    private static void whole() {
        Due.farmEdge("promise 35: LAST in p parts (1 to 20)", t -> {
            t.good("whole(2, 1, 2)", t.x.whole(2, 1, 2), 1);
            t.good("whole(2, 20, 2): 7 RUNS of one", t.x.whole(2, 20, 2), 7);
        });
        Due one = yard("promise 35: one LAYER is left", "rick a holds 0 layers 5;", 1);
        one.good("OFF", one.x.whole(0, 1, 1), 5);
        Due eight = yard("promise 35: HOURS as long as there may be", "rick a holds 0 layers 1 1 1 1 1 1 1 1;", 1);
        eight.good("the first HOUR has two, the LAST none", eight.x.whole(0, 1, 2), 7);
        eight.good("OFF", eight.x.whole(0, 1, 1), 8);
        Due empty = yard("promise 35: no RATS", "rick a holds 0 layers 0 0 0;", 1);
        for (int what = 0; what < 3; what++) {
            empty.good("whole", empty.x.whole(0, 20, what), 0);
        }
        Due.farmEdge("promise 35: another RICK is AT HAND", t -> {
            t.x.take(1);
            t.good("whole(0, 2, 0)", t.x.whole(0, 2, 0), 20);
            t.good("it stays so", t.x.many(8), 1);
        });
    }

    private static void wholeRefused() {
        for (int rick : NO_FARM_RICK) {
            Due.farmEdge("promises 35, 36, 38, 42, 43: 2, ahead of 5", t -> {
                t.refused("whole", 2, () -> t.x.whole(rick, 0, 9));
                t.refused("bestNets", 2, () -> t.x.bestNets(rick, 0));
                t.refused("bestPlaces", 2, () -> t.x.bestPlaces(rick, 0));
                t.refused("slowly", 2, () -> t.x.slowly(rick));
                t.refused("dearest", 2, () -> t.x.dearest(rick, 0));
            });
        }
        for (int parts : NO_PARTS) {
            Due.farmEdge("promises 35, 36, 38, 40, 43: 5", t -> {
                t.refused("whole", 5, () -> t.x.whole(0, parts, 0));
                t.refused("bestNets", 5, () -> t.x.bestNets(0, parts));
                t.refused("bestPlaces", 5, () -> t.x.bestPlaces(0, parts));
                t.refused("bestOrder", 5, () -> t.x.bestOrder(parts));
                t.refused("dearest", 5, () -> t.x.dearest(0, parts));
            });
            Due.farmEdge("promises 35, 36, 38, 43: 9 ahead of 5", t -> {
                t.x.take(2);
                t.x.last(1);
                t.refused("whole", 9, () -> t.x.whole(2, parts, 0));
                t.refused("bestNets", 9, () -> t.x.bestNets(2, parts));
                t.refused("bestPlaces", 9, () -> t.x.bestPlaces(2, parts));
                t.refused("dearest", 9, () -> t.x.dearest(2, parts));
            });
        }
        for (int what : new int[] {-1, 3, Integer.MIN_VALUE, Integer.MAX_VALUE}) {
            Due.farmEdge("promise 35: what 0, 1, 2; 5", t -> {
                t.refused("whole", 5, () -> t.x.whole(0, 1, what));
                t.x.take(2);
                t.x.last(1);
                t.refused("9 ahead of 5", 9, () -> t.x.whole(2, 1, what));
            });
        }
    }

    private static void fewestNets() {
        // an HOUR of 3 (2, 0, 1), a LAST of 2 (1, 1, 0): with a net at t its rat goes on to u;
        // with one at u a rat stays for the LAST (2, 0, 1) and goes on to s
        Due least = yard("BEST NETS: then the least number", "rick a holds 2 layers 4 1;side s weight 2;side t weight 1;"
                + "side u weight 2;dog d at s catches 9 tires 200;dog e at u catches 2 tires 2;", 1);
        least.good("bestNets(0, 1)", least.x.bestNets(0, 1), 0);
        least.good("2, though 4 is as good", least.x.netSet(), 2);
        least.x.net(2);
        least.good("4 is as good", least.x.whole(0, 1, 1), 0);
        // with nets at t and u the rat of t comes to v; with one at v alone that of v comes to s
        Due fewest = yard("BEST NETS: of several the fewest NETS", "rick a holds 2 layers 2 3;side s weight 2;"
                + "side t weight 1;side u weight 0;side v weight 2;dog d at s catches 3 tires 5;"
                + "dog e at v catches 4 tires 4;", 1);
        fewest.good("bestNets(0, 1)", fewest.x.bestNets(0, 1), 0);
        fewest.good("8, though 6 is as good", fewest.x.netSet(), 8);
        fewest.x.net(1);
        fewest.x.net(2);
        fewest.good("6 is as good", fewest.x.whole(0, 1, 1), 0);
        Due all = yard("BEST NETS: all SIDES", "rick a holds 0 layers 4;side s weight 1;side t weight 1;side u weight 1;"
                + "side v weight 1;", 1);
        all.good("bestNets(0, 1)", all.x.bestNets(0, 1), 0);
        all.good("netSet()", all.x.netSet(), 15);
        Due none = yard("BEST NETS: none", "rick a holds 0 layers 4;side s weight 1 net;side t weight 1 net;"
                + "dog d at s catches 9 tires 9;dog e at t catches 9 tires 9;", 1);
        none.good("bestNets(0, 1)", none.x.bestNets(0, 1), 0);
        none.good("those that are there are not minded", none.x.netSet(), 0);
        none.good("they stay", none.x.side(0, 1) + none.x.side(1, 1), 2);
    }

    private static void netSet() {
        Due.edge("promise 37: 8: there was none", t -> t.refused("netSet()", 8, () -> t.x.netSet()));
        Due.edge("promise 37: 8: none with STATUS 0", t -> {
            t.x.bestNets(0, 1);
            t.refused("netSet()", 8, () -> t.x.netSet());
        });
        Due bare = yard("promise 36: no SIDES", "rick a holds 0 layers 4;", 1);
        bare.good("bestNets(0, 20)", bare.x.bestNets(0, 20), 4);
        bare.good("netSet()", bare.x.netSet(), 0);
        Due.farmEdge("promise 37: by bestNets() latest with STATUS 0", t -> {
            t.x.bestNets(0, 2);
            t.refused("bestNets(0, 21)", 5, () -> t.x.bestNets(0, 21));
            t.good("netSet()", t.x.netSet(), 7);
            t.x.yard(0);
            t.good("netSet() behind another YARD", t.x.netSet(), 7);
        });
    }

    private static void places() {
        Due first = yard("BEST PLACES: of several the first by DOGS", "rick a holds 0 layers 2;side s weight 1;"
                + "side t weight 1;dog d at t catches 9 tires 9;dog e at t catches 9 tires 9;", 1);
        first.good("bestPlaces(0, 1)", first.x.bestPlaces(0, 1), 0);
        first.good("DOG 0 at the first", first.x.placeAt(0), 0);
        first.good("DOG 1 at the other", first.x.placeAt(1), 1);
        Due all = yard("BEST PLACES: nothing helps", "rick a holds 0 layers 2;side s weight 0;side t weight 0;"
                + "dog d at t catches 9 tires 9;dog e at t catches 9 tires 9;", 1);
        all.good("bestPlaces(0, 1)", all.x.bestPlaces(0, 1), 2);
        all.good("placeAt(0)", all.x.placeAt(0), 0);
        all.good("placeAt(1)", all.x.placeAt(1), 0);
        Due four = yard("BEST PLACES: four DOGS, four SIDES", "rick a holds 0 layers 4;side s weight 1;side t weight 1;"
                + "side u weight 1;side v weight 1;dog d at s catches 1 tires 9;dog e at s catches 1 tires 9;"
                + "dog f at s catches 1 tires 9;dog g at s catches 1 tires 9;", 1);
        four.good("bestPlaces(0, 1)", four.x.bestPlaces(0, 1), 0);
        for (int i = 0; i < 4; i++) {
            four.good("placeAt", four.x.placeAt(i), i);
            four.good("where they were", four.x.dog(i, 0), 0);
        }
        Due last = yard("BEST PLACES: the last SIDE for all DOGS", "rick a holds 0 layers 9;side s weight 0;"
                + "side t weight 1;dog d at s catches 3 tires 9;dog e at s catches 3 tires 9;", 1);
        last.good("bestPlaces(0, 1)", last.x.bestPlaces(0, 1), 3);
        last.good("placeAt(0)", last.x.placeAt(0), 1);
        last.good("placeAt(1)", last.x.placeAt(1), 1);
    }

    private static void placesRefused() {
        Due.edge("promise 39: 8: there was none", t -> {
            t.refused("placeAt(0)", 8, () -> t.x.placeAt(0));
            t.refused("placeAt(-1)", 8, () -> t.x.placeAt(-1));
        });
        Due.farmEdge("promise 39: 8: it was not there", t -> {
            t.x.bestPlaces(0, 2);
            t.good("placeAt(1)", t.x.placeAt(1), 1);
            for (int dog : new int[] {-1, 2, 3, 4, Integer.MIN_VALUE, Integer.MAX_VALUE}) {
                t.refused("placeAt(" + dog + ")", 8, () -> t.x.placeAt(dog));
            }
        });
        Due.farmEdge("promise 39: by bestPlaces() latest with STATUS 0", t -> {
            t.x.bestPlaces(0, 2);
            t.takeYard("rick a holds 0 layers 4;side s weight 1;", 1);
            t.refused("bestPlaces(0, 1)", 8, () -> t.x.bestPlaces(0, 1));
            t.good("placeAt(1): of a DOG that is no more", t.x.placeAt(1), 1);
        });
        Due bare = yard("promise 38: 8: no SIDES", "rick a holds 0 layers 4;rick b holds 0 layers 1;", 2);
        bare.refused("bestPlaces", 8, () -> bare.x.bestPlaces(0, 1));
        bare.refused("5 ahead of 8", 5, () -> bare.x.bestPlaces(0, 0));
        bare.x.take(1);
        bare.x.last(1);
        bare.refused("9 ahead of 8", 9, () -> bare.x.bestPlaces(1, 1));
        Due dogless = yard("promise 38: 8: no DOGS", "rick a holds 0 layers 4;rick b holds 0 layers 1;side s weight 1;", 2);
        dogless.refused("bestPlaces", 8, () -> dogless.x.bestPlaces(0, 1));
        dogless.refused("dearest", 8, () -> dogless.x.dearest(0, 1));
        dogless.refused("5 ahead of 8", 5, () -> dogless.x.dearest(0, 21));
        dogless.x.take(1);
        dogless.x.last(1);
        dogless.refused("9 ahead of 8", 9, () -> dogless.x.bestPlaces(1, 1));
        dogless.refused("9 ahead of 8", 9, () -> dogless.x.dearest(1, 1));
    }

    private static void order() {
        Due same = yard("BEST ORDER: of several the first by RICKS", "rick a holds 0 layers 1;rick b holds 0 layers 2;"
                + "rick c holds 0 layers 3;rick d holds 0 layers 4;", 4);
        same.good("bestOrder(1)", same.x.bestOrder(1), 0);
        for (int k = 0; k < 4; k++) {
            same.good("orderAt", same.x.orderAt(k), k);
        }
        Due turned = yard("BEST ORDER: the last one by RICKS", "rick a holds 0 layers 0;rick b holds 0 layers 0;"
                + "rick c holds 0 layers 9;side s weight 1 to a;dog d at s catches 3 tires 200;", 3);
        turned.good("3 of c, 3 of a", turned.x.bestOrder(1), 6);
        int[] due = {1, 2, 0};
        for (int k = 0; k < 3; k++) {
            turned.good("orderAt", turned.x.orderAt(k), due[k]);
        }
        Due left = yard("BEST ORDER of all RICKS with LAYERS left", "rick a holds 0 layers 1;rick b holds 0 layers 2;"
                + "rick c holds 0 layers 3;side s weight 1;boy y at s reach 1;", 3);
        left.x.take(1);
        left.x.last(1);
        left.good("bestOrder(20)", left.x.bestOrder(20), 4);
        left.good("orderAt(0)", left.x.orderAt(0), 0);
        left.good("orderAt(1)", left.x.orderAt(1), 2);
        left.refused("orderAt(2)", 8, () -> left.x.orderAt(2));
        Due one = yard("BEST ORDER of one RICK", "rick a holds 0 layers 1;", 1);
        one.good("bestOrder(1)", one.x.bestOrder(1), 0);
        one.good("orderAt(0)", one.x.orderAt(0), 0);
        one.refused("orderAt(1)", 8, () -> one.x.orderAt(1));
    }

    private static void orderRefused() {
        Due.edge("promise 40: 8: no RICK with LAYERS left", t -> {
            t.refused("bestOrder(1)", 8, () -> t.x.bestOrder(1));
            t.refused("5 ahead of 8", 5, () -> t.x.bestOrder(0));
            t.refused("orderAt(0)", 8, () -> t.x.orderAt(0));
        });
        Due gone = yard("promise 40: 8: all are threshed", "rick a holds 0 layers 1;", 1);
        gone.x.bestOrder(1);
        gone.x.take(0);
        gone.x.last(1);
        gone.refused("bestOrder(1)", 8, () -> gone.x.bestOrder(1));
        gone.good("orderAt(0), latest with STATUS 0", gone.x.orderAt(0), 0);
        Due.farmEdge("promise 41: 8: no such", t -> {
            t.x.bestOrder(2);
            for (int k : new int[] {-1, 3, 4, Integer.MIN_VALUE, Integer.MAX_VALUE}) {
                t.refused("orderAt(" + k + ")", 8, () -> t.x.orderAt(k));
            }
        });
    }

    private static void slowly() {
        Due few = yard("SLOWLY: the fewest parts", "rick a holds 0 layers 9;side s weight 1;boy b at s reach 9;", 1);
        few.good("one part is as good as 20", few.x.slowly(0), 1);
        Due most = yard("SLOWLY: 1 to 20", "rick a holds 0 layers 20;side s weight 1;boy b at s reach 1;", 1);
        most.good("slowly(0)", most.x.slowly(0), 20);
        Due more = yard("SLOWLY: not above 20", "rick a holds 0 layers 99;side s weight 1;boy b at s reach 1;", 1);
        more.good("slowly(0)", more.x.slowly(0), 20);
        Due empty = yard("SLOWLY: no RATS", "rick a holds 0 layers 0;", 1);
        empty.good("slowly(0)", empty.x.slowly(0), 1);
        empty.x.take(0);
        empty.x.last(1);
        empty.refused("no LAYERS left", 9, () -> empty.x.slowly(0));
    }

    private static void dearest() {
        Due most = yard("DEAREST: the most more", "rick a holds 0 layers 8;side s weight 1;side t weight 1;"
                + "dog d at s catches 2 tires 9;dog e at t catches 3 tires 9;dog f at s catches 3 tires 9;", 1);
        most.good("one without d, 3 without e, 2 without f", most.x.dearest(0, 1), 1);
        Due first = yard("DEAREST: of several the first", "rick a holds 0 layers 4;side s weight 1;side t weight 1;"
                + "side u weight 0;dog d at u catches 9 tires 9;dog e at s catches 2 tires 9;"
                + "dog f at t catches 2 tires 9;", 1);
        first.good("none without d, 2 without e, 2 without f", first.x.dearest(0, 1), 1);
        Due none = yard("DEAREST: nobody is missed", "rick a holds 0 layers 8;side s weight 0;"
                + "dog d at s catches 2 tires 9;dog e at s catches 3 tires 9;", 1);
        none.good("the first", none.x.dearest(0, 20), 0);
        Due tired = yard("DEAREST: a DOG that is TIRED", "rick a holds 0 layers 9;rick b holds 0 layers 9;side s weight 1;"
                + "dog d at s catches 9 tires 5;dog e at s catches 1 tires 9;", 2);
        tired.good("d is fresh", tired.x.dearest(1, 1), 0);
        tired.x.take(0);
        tired.x.last(1);
        tired.good("d is TIRED", tired.x.dearest(1, 1), 1);
        Due one = yard("DEAREST: one DOG", "rick a holds 0 layers 9;side s weight 1;dog d at s catches 1 tires 1;", 1);
        one.good("dearest(0, 1)", one.x.dearest(0, 1), 0);
        one.good("it is there still", one.x.dog(0, 0), 0);
    }

    private static void proudest() {
        Due.edge("promise 44: 8: no DOGS", t -> t.refused("proudest()", 8, () -> t.x.proudest()));
        Due first = yard("promise 44: of several the first", "rick a holds 0 layers 9;side s weight 1;"
                + "dog d at s catches 1 tires 9;dog e at s catches 2 tires 9;dog f at s catches 2 tires 9;", 1);
        first.good("none has TAILS", first.x.proudest(), 0);
        first.x.take(0);
        first.x.last(1);
        first.good("two have two", first.x.proudest(), 1);
        first.x.rest();
        first.good("TAILS stay", first.x.proudest(), 1);
        Due last = yard("promise 44: the last one", "rick a holds 0 layers 20;side s weight 1;"
                + "dog d at s catches 1 tires 9;dog e at s catches 2 tires 9;dog f at s catches 3 tires 9;"
                + "dog g at s catches 4 tires 9;", 1);
        last.x.take(0);
        last.x.last(1);
        last.good("proudest()", last.x.proudest(), 3);
    }

    private static void tired() {
        Due.edge("promise 45: no DOGS", t -> t.good("tired()", t.x.tired(), 0));
        Due all = yard("promise 45: all four", "rick a holds 0 layers 9;side s weight 1;dog d at s catches 1 tires 1;"
                + "dog e at s catches 2 tires 2;dog f at s catches 1 tires 1;dog g at s catches 9 tires 5;", 1);
        all.x.take(0);
        all.x.last(1);
        all.good("tired()", all.x.tired(), 15);
        Due one = yard("promise 45: the last alone", "rick a holds 0 layers 9;side s weight 1;dog d at s catches 1 tires 2;"
                + "dog e at s catches 2 tires 3;dog f at s catches 1 tires 2;dog g at s catches 9 tires 5;", 1);
        one.x.take(0);
        one.x.last(1);
        one.good("tired()", one.x.tired(), 8);
    }

    private static void allElseAsItIs() {
        Due.farmEdge("WOULD: all else as it is", t -> {
            t.x.take(0);
            t.x.hour();
            t.x.hour();
            String before = State.of(t.x);
            t.x.run(99, true, 0);
            t.x.whole(1, 3, 1);
            t.x.slowly(0);
            t.x.dearest(1, 1);
            t.x.toSide(99, 0);
            t.x.later(1, 99);
            t.x.backTo(1, 99);
            t.x.eaten(1, 99);
            t.x.capsPay(1);
            t.is("nothing is changed", State.of(t.x).equals(before) ? 1 : 0, 1);
        });
    }
}
