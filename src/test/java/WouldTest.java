/** Promises 33 to 45: what WOULD be, and which is best. */
public final class WouldTest {
    public static void main(String[] args) {
        toSide();
        run();
        whole();
        wholeRefused();
        bestNets();
        bestPlaces();
        bestOrder();
        orderOfMany();
        slowly();
        dearest();
        proudest();
        tired();
        nothingChanges();
        Due.end();
    }

    private static void toSide() {
        Due t = Due.farm("promise 33");
        int[][] due = {{0, 0, 0}, {1, 0, 0}, {2, 0, 0}, {2, 1, 0}, {3, 1, 0}, {3, 2, 0}, {3, 2, 1}, {4, 2, 1}};
        for (int n = 0; n < due.length; n++) {
            for (int s = 0; s < 3; s++) {
                t.good("toSide(" + n + ", " + s + ")", t.x.toSide(n, s), due[n][s]);
            }
        }
        t.good("toSide(9999, 0)", t.x.toSide(9999, 0), 5000);
        t.bad("toSide(10000, 0)", t.x.toSide(10000, 0), 5);
        t.bad("toSide(-1, 0)", t.x.toSide(-1, 0), 5);
        t.bad("toSide(-1, 3)", t.x.toSide(-1, 3), 2);
        t.bad("toSide(1, -1)", t.x.toSide(1, -1), 2);
        t.x.lean(0, 0);
        t.good("not to one without a weight", t.x.toSide(1, 0), 0);
        t.good("the first with a weight", t.x.toSide(1, 1), 1);
        t.x.lean(1, 0);
        t.x.lean(2, 0);
        t.good("all weights 0", t.x.toSide(5, 0), 0);
    }

    private static void run() {
        Due t = Due.farm("promise 34");
        int[][] due = {{7, 2, 1}, {7, 3, 0}};
        for (int what = 0; what < 3; what++) {
            t.good("run(10, false)", t.x.run(10, false, what), due[0][what]);
            t.good("run(10, true)", t.x.run(10, true, what), due[1][what]);
            t.good("run(0)", t.x.run(0, true, what), 0);
        }
        t.good("run(999)", t.x.run(999, false, 0), 7);
        t.bad("run(1000)", t.x.run(1000, false, 0), 5);
        t.bad("run(-1)", t.x.run(-1, false, 0), 5);
        t.bad("what 3", t.x.run(1, false, 3), 5);
        t.bad("what -1", t.x.run(1, false, -1), 5);
        t.x.net(0);
        t.x.net(1);
        t.good("all nets: back", t.x.run(10, false, 2), 10);
        t.good("all nets, the last: caught", t.x.run(10, true, 0), 10);
        t.good("all nets, the last: back", t.x.run(10, true, 2), 0);
        t.good("netted()", t.x.netted(), 0);
        t.good("no runs", t.x.many(11), 0);
    }

    private static void whole() {
        Due t = Due.farm("promise 35");
        int[] oat = {20, 10, 3};
        int[] rye = {7, 0, 1};
        for (int what = 0; what < 3; what++) {
            t.good("whole(0, 2)", t.x.whole(0, 2, what), oat[what]);
            t.good("whole(2, 1)", t.x.whole(2, 1, what), rye[what]);
        }
        t.x.take(0);
        t.x.hour();
        t.x.hour();
        t.good("from now on: caught", t.x.whole(0, 2, 0), 13);
        t.good("from now on: off", t.x.whole(0, 2, 1), 0);
        t.good("a run now: off", t.x.run(10, false, 1), 2);
        t.good("a run now: caught", t.x.run(10, false, 0), 7);
        t.good("best nets now", t.x.bestNets(0, 2), 0);
        t.good("the net that is there", t.x.netSet(), 4);
        t.good("best places now: 9 at lee, 4 at the ditch", t.x.bestPlaces(0, 1), 6);
        t.good("slowly now", t.x.slowly(0), 2);
        t.good("from now on: runs", t.x.whole(0, 2, 2), 2);
    }

    private static void wholeRefused() {
        Due t = Due.farm("promises 35, 36, 38, 42, 43");
        t.x.take(2);
        t.x.last(1);
        t.bad("whole(3)", t.x.whole(3, 0, 9), 2);
        t.bad("bestNets(3)", t.x.bestNets(3, 0), 2);
        t.bad("bestPlaces(-1)", t.x.bestPlaces(-1, 0), 2);
        t.bad("slowly(3)", t.x.slowly(3), 2);
        t.bad("dearest(-1)", t.x.dearest(-1, 0), 2);
        t.bad("whole(2): no layers", t.x.whole(2, 0, 9), 9);
        t.bad("bestNets(2)", t.x.bestNets(2, 0), 9);
        t.bad("bestPlaces(2)", t.x.bestPlaces(2, 0), 9);
        t.bad("slowly(2)", t.x.slowly(2), 9);
        t.bad("dearest(2)", t.x.dearest(2, 0), 9);
        for (int parts : new int[] {0, 21, -1}) {
            t.bad("whole", t.x.whole(0, parts, 0), 5);
            t.bad("bestNets", t.x.bestNets(0, parts), 5);
            t.bad("bestPlaces", t.x.bestPlaces(0, parts), 5);
            t.bad("dearest", t.x.dearest(0, parts), 5);
            t.bad("bestOrder", t.x.bestOrder(parts), 5);
        }
        t.bad("what 3", t.x.whole(0, 1, 3), 5);
        t.bad("what -1", t.x.whole(0, 1, -1), 5);
        t.takeYard("rick a holds 0 layers 3;rick b holds 0 layers 1;side s weight 1;", 2);
        t.bad("no dogs", t.x.bestPlaces(0, 1), 8);
        t.bad("no dogs", t.x.dearest(0, 1), 8);
        t.bad("no dogs, parts 0", t.x.dearest(0, 0), 5);
        t.x.take(1);
        t.x.last(1);
        t.bad("no layers, no dogs", t.x.bestPlaces(1, 1), 9);
        t.bad("no layers, no dogs", t.x.dearest(1, 1), 9);
    }

    private static void bestNets() {
        Due t = new Due("promises 36 and 37");
        t.bad("netSet()", t.x.netSet(), 8);
        t.takeYard("rick a holds 0 layers 4;side s weight 1;side t weight 1 net;dog d at s catches 4 tires 9;", 1);
        t.good("bestNets(0, 1)", t.x.bestNets(0, 1), 0);
        t.good("netSet(): one net is enough", t.x.netSet(), 2);
        t.bad("bestNets(1, 1)", t.x.bestNets(1, 1), 2);
        t.good("netSet() of the one ahead", t.x.netSet(), 2);
        t.x.lean(0, 0);
        t.x.lean(1, 0);
        t.good("no weights", t.x.bestNets(0, 1), 4);
        t.good("netSet(): none helps", t.x.netSet(), 0);
        t.takeYard(Due.FARM, 3);
        t.good("netSet() of another yard", t.x.netSet(), 0);
        t.good("bestNets(0, 2)", t.x.bestNets(0, 2), 0);
        t.good("netSet()", t.x.netSet(), 7);
        t.takeYard("rick a holds 0 layers 4;side s weight 1;side t weight 1;dog d at s catches 4 tires 9;"
                + "dog e at t catches 4 tires 9;side u weight 1;", 1);
        t.good("bestNets(0, 1)", t.x.bestNets(0, 1), 0);
        t.good("netSet(): the third alone", t.x.netSet(), 4);
        t.takeYard("rick a holds 0 layers 4;", 1);
        t.good("no sides", t.x.bestNets(0, 1), 4);
        t.x.take(0);
        t.x.last(1);
        t.takeYard("rick a holds 0 layers 3;rick b holds 0 layers 4;", 2);
        t.x.take(0);
        t.x.last(1);
        t.good("those off already do not count", t.x.bestNets(1, 1), 4);
        t.good("netSet()", t.x.netSet(), 0);
        t.takeYard("rick a holds 0 layers 3;side s weight 1;side t weight 1;dog d at s catches 2 tires 9;"
                + "dog e at t catches 2 tires 9;side u weight 1;dog f at u catches 2 tires 9;", 1);
        t.good("no nets are best", t.x.bestNets(0, 1), 0);
        t.good("netSet()", t.x.netSet(), 0);
    }

    private static void bestPlaces() {
        Due t = new Due("promises 38 and 39");
        t.bad("placeAt(0)", t.x.placeAt(0), 8);
        t.takeYard("rick a holds 0 layers 6;side s weight 1;side t weight 2;dog d at s catches 2 tires 9;"
                + "dog e at s catches 4 tires 9;", 1);
        t.good("bestPlaces(0, 1)", t.x.bestPlaces(0, 1), 0);
        t.good("placeAt(0)", t.x.placeAt(0), 0);
        t.good("placeAt(1)", t.x.placeAt(1), 1);
        t.bad("placeAt(2)", t.x.placeAt(2), 8);
        t.bad("placeAt(-1)", t.x.placeAt(-1), 8);
        t.good("the dogs are where they were", t.x.dog(1, 0), 0);
        t.bad("bestPlaces(0, 0)", t.x.bestPlaces(0, 0), 5);
        t.takeYard("rick a holds 0 layers 1;", 1);
        t.bad("no sides", t.x.bestPlaces(0, 1), 8);
        t.good("placeAt(1) of the one ahead", t.x.placeAt(1), 1);
        t.takeYard("rick a holds 0 layers 3;rick b holds 0 layers 9;side s weight 1;dog d at s catches 1 tires 9;", 2);
        t.x.take(0);
        t.x.last(1);
        t.good("one side, some off already", t.x.bestPlaces(1, 2), 7);
        t.good("placeAt(0)", t.x.placeAt(0), 0);
        t.takeYard("rick a holds 0 layers 9;side s weight 1;side t weight 1;side u weight 1;"
                + "dog d at u catches 1 tires 9;dog e at u catches 1 tires 9;", 1);
        t.good("bestPlaces(0, 1)", t.x.bestPlaces(0, 1), 7);
        t.good("of several the first", t.x.placeAt(0), 0);
        t.good("of several the first", t.x.placeAt(1), 0);
        t.takeYard("rick a holds 0 layers 2;side s weight 1;side t weight 1;dog d at t catches 9 tires 9;"
                + "dog e at t catches 9 tires 9;", 1);
        t.good("bestPlaces(0, 1)", t.x.bestPlaces(0, 1), 0);
        t.good("of several the first by dogs", t.x.placeAt(0), 0);
        t.good("of several the first by dogs", t.x.placeAt(1), 1);
    }

    private static void bestOrder() {
        Due t = new Due("promises 40 and 41");
        t.bad("bestOrder(1)", t.x.bestOrder(1), 8);
        t.bad("bestOrder(0)", t.x.bestOrder(0), 5);
        t.bad("orderAt(0)", t.x.orderAt(0), 8);
        t.takeYard("rick a holds 0 layers 1;rick b holds 0 layers 5;side s weight 1 to a;"
                + "dog d at s catches 3 tires 200;", 2);
        t.good("bestOrder(1)", t.x.bestOrder(1), 6);
        t.good("b first: its rats go to a", t.x.orderAt(0), 1);
        t.good("then a", t.x.orderAt(1), 0);
        t.bad("orderAt(2)", t.x.orderAt(2), 8);
        t.bad("orderAt(-1)", t.x.orderAt(-1), 8);
        t.good("in two parts", t.x.bestOrder(2), 6);
        t.good("of several the first", t.x.orderAt(0), 0);
        t.good("nothing was done", t.x.rick(1, 2), 5);
        t.x.take(0);
        t.x.last(1);
        t.good("one rick is left", t.x.bestOrder(1), 3);
        t.good("orderAt(0)", t.x.orderAt(0), 1);
        t.bad("orderAt(1)", t.x.orderAt(1), 8);
        t.x.take(1);
        t.x.last(1);
        t.bad("none is left", t.x.bestOrder(1), 8);
        t.good("orderAt(0) of the one ahead", t.x.orderAt(0), 1);
    }

    private static void orderOfMany() {
        Due t = new Due("promises 40 and 41");
        t.takeYard("rick a holds 0 layers 1;rick b holds 0 layers 2;rick c holds 0 layers 3;rick d holds 0 layers 4;", 4);
        t.good("nobody catches any", t.x.bestOrder(20), 0);
        for (int k = 0; k < 4; k++) {
            t.good("as they stand", t.x.orderAt(k), k);
        }
        t.x.mark();
        t.takeYard("rick a holds 0 layers 3;side s weight 1;boy b at s reach 2;", 1);
        t.good("one rick", t.x.bestOrder(1), 2);
        t.good("one rick", t.x.orderAt(0), 0);
        t.bad("no second", t.x.orderAt(1), 8);
        t.x.back();
        t.x.take(1);
        t.x.last(1);
        t.good("nobody catches any", t.x.bestOrder(1), 0);
        int[] left = {0, 2, 3};
        for (int k = 0; k < 3; k++) {
            t.good("those that are left", t.x.orderAt(k), left[k]);
        }
        t.bad("no fourth", t.x.orderAt(3), 8);
        t.takeYard("rick a holds 0 layers 0;rick b holds 0 layers 0;rick c holds 0 layers 9;rick d holds 0 layers 1;"
                + "side s weight 1 to b;side t weight 0 to a;dog e at s catches 3 tires 200;", 4);
        t.good("c ahead of b", t.x.bestOrder(1), 7);
        int[] best = {0, 2, 1, 3};
        for (int k = 0; k < 4; k++) {
            t.good("the first by ricks", t.x.orderAt(k), best[k]);
        }
    }

    private static void slowly() {
        Due t = new Due("promise 42");
        t.takeYard("rick a holds 0 layers 7;side s weight 1;dog d at s catches 2 tires 200;", 1);
        t.good("slowly(0)", t.x.slowly(0), 4);
        t.takeYard("rick a holds 0 layers 99;side s weight 1;dog d at s catches 1 tires 200;", 1);
        t.good("slowly(0)", t.x.slowly(0), 20);
        t.takeYard("rick a holds 0 layers 99;side s weight 1;", 1);
        t.good("slowly(0): nothing helps", t.x.slowly(0), 1);
    }

    private static void dearest() {
        Due t = new Due("promise 43");
        t.takeYard("rick a holds 0 layers 6;side s weight 1;side t weight 1;dog d at s catches 1 tires 9;"
                + "dog e at t catches 3 tires 9;", 1);
        t.good("dearest(0, 1)", t.x.dearest(0, 1), 1);
        t.x.lean(1, 0);
        t.good("dearest(0, 1)", t.x.dearest(0, 1), 0);
        t.x.lean(0, 0);
        t.good("of several the first", t.x.dearest(0, 1), 0);
        t.good("the dogs are there", t.x.dog(0, 0), 0);
    }

    private static void proudest() {
        Due t = new Due("promise 44");
        t.bad("proudest()", t.x.proudest(), 8);
        t.takeYard("rick a holds 0 layers 6 0 5;side s weight 1;dog d at s catches 1 tires 9;"
                + "dog e at s catches 2 tires 9;dog f at s catches 2 tires 9;", 1);
        t.good("of several the first", t.x.proudest(), 0);
        t.x.take(0);
        t.x.hour();
        t.good("of several the first", t.x.proudest(), 1);
    }

    private static void tired() {
        Due t = new Due("promise 45");
        t.good("tired()", t.x.tired(), 0);
        t.takeYard("rick a holds 0 layers 6 0 5;side s weight 1;dog d at s catches 2 tires 2;"
                + "dog e at s catches 2 tires 9;dog f at s catches 2 tires 1;", 1);
        t.x.take(0);
        t.x.hour();
        t.good("tired()", t.x.tired(), 5);
    }

    private static void nothingChanges() {
        Due t = Due.farm("what would be");
        t.x.bestNets(0, 2);
        t.x.bestPlaces(0, 2);
        t.x.bestOrder(3);
        t.x.slowly(1);
        t.x.dearest(0, 1);
        t.x.whole(1, 1, 0);
        t.x.run(99, false, 0);
        t.good("rats", t.x.rick(0, 2) + t.x.rick(1, 2) + t.x.rick(2, 2), 30 + 12 + 7);
        t.good("caught and off", t.x.many(9) + t.x.many(10) + t.x.many(11), 0);
        t.good("nets", t.x.side(0, 1) + 2 * t.x.side(1, 1) + 4 * t.x.side(2, 1), 4);
        t.good("places", t.x.dog(0, 0) + 10 * t.x.dog(1, 0), 10);
    }
}
