/** Promises 23 to 32: TAKE, HOUR, LAST, who is where, WEEKS that go by. */
public final class DoneTest {
    public static void main(String[] args) {
        take();
        hourOfFarm();
        hourRefused();
        lastInParts();
        lastRefused();
        netsInTheLastLayer();
        boysInTheWay();
        toOwnRick();
        toFullRick();
        toRickWithoutLayers();
        layersHaveLimits();
        nowhere();
        netsAndGaps();
        moveSendLean();
        rest();
        week();
        Due.end();
    }

    private static void take() {
        Due t = Due.farm("promise 23");
        t.bad("take(3)", t.x.take(3), 2);
        t.bad("take(-1)", t.x.take(-1), 2);
        t.good("take(0)", t.x.take(0), 3);
        t.good("take(2)", t.x.take(2), 1);
        t.good("at hand", t.x.many(8), 2);
        t.x.last(1);
        t.bad("none at hand", t.x.many(8), 8);
        t.good("take(1)", t.x.take(1), 2);
        t.bad("take(2): none is left", t.x.take(2), 9);
        t.good("at hand still", t.x.many(8), 1);
    }

    private static void hourOfFarm() {
        Due t = Due.farm("promise 24");
        t.x.take(0);
        t.good("10 of 10 stay", t.x.hour(), 0);
        t.good("no run", t.x.many(11), 0);
        t.good("30: 20 run", t.x.hour(), 20);
        t.good("a run", t.x.many(11), 1);
        // 11, 6, 3 go to the sides: 3 by nip and 2 by tom; 2 by big; 3 go back
        t.good("the layer", t.x.layer(0, 0), 13);
        t.good("nip", t.x.dog(0, 3), 3);
        t.good("big", t.x.dog(1, 3), 2);
        t.good("tom", t.x.boy(0, 2), 2);
        t.good("off at lee", t.x.side(0, 3), 6);
        t.good("off at the ditch", t.x.side(1, 3), 4);
        t.good("none at the wagon", t.x.side(2, 3), 0);
        t.good("into hay's lowest layer", t.x.layer(1, 1), 13);
        t.good("not into its upper one", t.x.layer(1, 0), 3);
        t.good("caught", t.x.many(9), 7);
        t.good("off", t.x.many(10), 10);
    }

    private static void hourRefused() {
        Due t = Due.farm("promise 24");
        t.bad("none at hand", t.x.hour(), 8);
        t.x.take(2);
        t.bad("one layer", t.x.hour(), 9);
        t.good("nothing changed", t.x.rick(2, 2), 7);
    }

    private static Due one(String about, String more) {
        Due t = new Due(about);
        t.takeYard("rick a holds 0 layers 7;side s weight 1;dog d at s catches 2 tires 200;" + more, 1);
        t.x.take(0);
        return t;
    }

    private static void lastInParts() {
        int[] off = {5, 3, 1, 0};
        for (int parts = 1; parts <= 4; parts++) {
            Due t = one("promise 25", "");
            t.good("last(" + parts + ")", t.x.last(parts), 7);
            t.good("off in " + parts + " parts", t.x.many(10), off[parts - 1]);
            t.good("runs", t.x.many(11), parts);
        }
        Due t = one("promise 25", "");
        t.good("last(20)", t.x.last(20), 7);
        t.good("runs of 0 are none", t.x.many(11), 7);
        t.good("layers", t.x.rick(0, 1), 0);
        t.good("rats", t.x.rick(0, 2), 0);
        t.bad("none at hand", t.x.many(8), 8);
        Due none = new Due("promise 25");
        none.takeYard("rick a holds 0 layers 0;", 1);
        none.x.take(0);
        none.good("nobody runs", none.x.last(1), 0);
        none.good("no run", none.x.many(11), 0);
        none.bad("none is left", none.x.take(0), 9);
    }

    private static void lastRefused() {
        Due t = Due.farm("promise 25");
        t.bad("last(0)", t.x.last(0), 5);
        t.bad("last(21)", t.x.last(21), 5);
        t.bad("none at hand", t.x.last(20), 8);
        t.x.take(1);
        t.bad("two layers", t.x.last(1), 9);
        t.bad("two layers, no parts", t.x.last(0), 5);
        t.x.hour();
        t.good("one layer", t.x.last(1), 6);
    }

    private static void netsInTheLastLayer() {
        Due t = new Due("nets in the last layer");
        t.takeYard("rick a holds 0 layers 16;side n weight 1 net;side o weight 1 net;side p weight 1;"
                + "side q weight 1 net;boy b at p reach 9;", 1);
        t.good("a run of 8 in an hour: back", t.x.run(8, false, 2), 6);
        t.good("a run of 8 in an hour: off", t.x.run(8, false, 1), 0);
        t.x.take(0);
        t.good("last(1)", t.x.last(1), 16);
        t.good("all come to the one gap", t.x.side(2, 3), 7);
        t.good("netted()", t.x.netted(), 0);
        Due round = new Due("nets in the last layer");
        round.takeYard("rick a holds 0 layers 6;side n weight 0;side o weight 3 net;side p weight 0;"
                + "side q weight 3 net;", 1);
        round.x.take(0);
        round.x.last(1);
        round.good("on to the first side, round", round.x.side(0, 3), 3);
        round.good("on to the next side", round.x.side(2, 3), 3);
    }

    private static void boysInTheWay() {
        Due t = new Due("boys in the way");
        t.takeYard("rick a holds 0 layers 9;side s weight 1;side t weight 0;dog d at s catches 3 tires 200;"
                + "dog e at s catches 1 tires 200;boy b at s reach 1;boy c at s reach 4;boy f at t reach 9;", 1);
        t.x.take(0);
        t.x.last(1);
        t.good("a dog catches two fewer", t.x.dog(0, 3), 1);
        t.good("never below none", t.x.dog(1, 3), 0);
        t.good("the first boy", t.x.boy(0, 2), 1);
        t.good("the second boy", t.x.boy(1, 2), 4);
        t.good("a boy elsewhere", t.x.boy(2, 2), 0);
        t.good("off", t.x.many(10), 3);
        Due few = new Due("dogs first");
        few.takeYard("rick a holds 0 layers 3;side s weight 1;dog d at s catches 2 tires 200;"
                + "dog e at s catches 9 tires 200;boy b at s reach 9;", 1);
        few.x.take(0);
        few.x.last(1);
        few.good("the first dog", few.x.dog(0, 3), 1);
        few.good("the second dog has the rest", few.x.dog(1, 3), 2);
        few.good("none for the boy", few.x.boy(0, 2), 0);
    }

    private static void toOwnRick() {
        Due t = new Due("to its own rick");
        t.takeYard("rick a holds 0 layers 5 3 2;side s weight 1 to a;", 1);
        t.x.take(0);
        t.good("hour()", t.x.hour(), 8);
        t.good("the upper layer", t.x.layer(0, 0), 0);
        t.good("the lowest layer", t.x.layer(0, 1), 10);
        t.good("hour()", t.x.hour(), 10);
        t.good("the lowest layer", t.x.layer(0, 0), 10);
        t.good("last(2)", t.x.last(2), 10);
        t.good("nobody comes back", t.x.rick(0, 2), 0);
        t.good("off", t.x.many(10), 28);
        t.good("off there", t.x.side(0, 3), 28);
    }

    private static void toFullRick() {
        Due t = new Due("into a full layer");
        t.takeYard("rick a holds 0 layers 20;rick b holds 0 layers 5 78;side s weight 1 to b;breed 100;", 2);
        t.x.take(0);
        t.good("seven weeks", t.x.week(7), 20 + 128 * 83);
        t.x.last(3);
        t.good("up to 9,999", t.x.layer(1, 1), 9999);
        t.good("the upper one stays", t.x.layer(1, 0), 640);
        t.good("all are off", t.x.many(10), 20);
    }

    private static void toRickWithoutLayers() {
        Due t = new Due("into a rick without layers");
        t.takeYard("rick a holds 0 layers 20;rick b holds 0 layers 5;side s weight 1 to b;", 2);
        t.x.take(1);
        t.x.last(1);
        t.x.take(0);
        t.x.last(1);
        t.good("rats", t.x.rick(1, 2), 0);
        t.good("off", t.x.side(0, 3), 25);
    }

    private static void layersHaveLimits() {
        Due t = new Due("9,999 at most");
        t.takeYard("rick a holds 7 layers 99 99;breed 100;side s weight 1;", 1);
        t.good("a week", t.x.week(6), 2 * 6336);
        t.good("weeks", t.x.week(99), 2 * 9999);
        t.x.take(0);
        t.good("one layer's rats", t.x.hour(), 9992);
        t.good("left", t.x.rick(0, 2), 7);
    }

    private static void nowhere() {
        Due t = new Due("to nowhere");
        t.takeYard("rick a holds 1 layers 5 3;side s weight 0 to a;side t weight 0 net;boy b at s reach 9;", 1);
        t.x.take(0);
        t.good("hour()", t.x.hour(), 7);
        t.good("off", t.x.many(10), 7);
        t.good("off at the side", t.x.side(0, 3), 0);
        t.good("none goes back", t.x.rick(0, 2), 1);
        t.good("last(1)", t.x.last(1), 1);
        t.good("off", t.x.many(10), 8);
        t.good("runs", t.x.many(11), 2);
        t.good("netted()", t.x.netted(), 0);
    }

    private static void netsAndGaps() {
        Due t = Due.farm("promises 26 and 27");
        t.bad("net(3)", t.x.net(3), 2);
        t.bad("net(-1)", t.x.net(-1), 2);
        t.bad("net(2)", t.x.net(2), 9);
        t.good("net(0)", t.x.net(0));
        t.good("it is there", t.x.side(0, 1), 1);
        t.bad("gap(3)", t.x.gap(3), 2);
        t.bad("gap(-1)", t.x.gap(-1), 2);
        t.bad("gap(1)", t.x.gap(1), 9);
        t.good("gap(2)", t.x.gap(2));
        t.good("it is there", t.x.side(2, 1), 0);
        t.good("the other", t.x.side(1, 1), 0);
    }

    private static void moveSendLean() {
        Due t = Due.farm("promises 28 to 30");
        t.bad("move(2, 0)", t.x.move(2, 0), 2);
        t.bad("move(0, 3)", t.x.move(0, 3), 2);
        t.bad("move(-1, -1)", t.x.move(-1, -1), 2);
        t.good("move(0, 2)", t.x.move(0, 2));
        t.good("dog 0 is there", t.x.dog(0, 0), 2);
        t.good("dog 1 is where it was", t.x.dog(1, 0), 1);
        t.good("move(0, 2) again", t.x.move(0, 2));
        t.bad("send(1, 0)", t.x.send(1, 0), 2);
        t.bad("send(0, 3)", t.x.send(0, 3), 2);
        t.bad("send(0, -1)", t.x.send(0, -1), 2);
        t.good("send(0, 1)", t.x.send(0, 1));
        t.good("the boy is there", t.x.boy(0, 0), 1);
        t.bad("lean(3, 10)", t.x.lean(3, 10), 2);
        t.bad("lean(0, 10)", t.x.lean(0, 10), 5);
        t.bad("lean(0, -1)", t.x.lean(0, -1), 5);
        t.good("lean(0, 9)", t.x.lean(0, 9));
        t.good("lean(1, 0)", t.x.lean(1, 0));
        t.good("weight", t.x.side(0, 0), 9);
        t.good("weight", t.x.side(1, 0), 0);
    }

    private static void rest() {
        Due t = new Due("promise 31");
        t.takeYard("rick a holds 0 layers 0 4 4 4;side s weight 1;dog d at s catches 3 tires 5;"
                + "dog e at s catches 20 tires 200;side t weight 0;", 1);
        t.x.move(1, 1);
        t.x.take(0);
        t.x.hour();
        t.good("tails", t.x.dog(0, 3), 3);
        t.good("tired()", t.x.tired(), 0);
        t.x.hour();
        t.good("tails", t.x.dog(0, 3), 5);
        t.good("tired()", t.x.tired(), 1);
        t.good("off", t.x.many(10), 3);
        t.good("would catch none", t.x.run(4, false, 0), 0);
        t.good("rest()", t.x.rest(), 1);
        t.good("tired()", t.x.tired(), 0);
        t.good("tails stay", t.x.dog(0, 3), 5);
        t.good("rest() again", t.x.rest(), 0);
        t.x.hour();
        t.good("tails", t.x.dog(0, 3), 8);
        t.good("all of them are fresh again", t.x.rest(), 0);
        t.good("would catch three", t.x.run(4, false, 0), 3);
        t.good("all four", t.x.last(2), 0);
        t.takeYard("rick a holds 0 layers 9;side s weight 1;dog d at s catches 9 tires 5;", 1);
        t.x.rest();
        t.x.take(0);
        t.x.last(1);
        t.good("as many as tire it", t.x.dog(0, 3), 5);
    }

    private static void week() {
        Due t = Due.farm("promise 32");
        t.bad("week(0)", t.x.week(0), 5);
        t.bad("week(100)", t.x.week(100), 5);
        t.bad("week(-1)", t.x.week(-1), 5);
        t.good("week(1)", t.x.week(1), 45 + 17 + 7);
        t.good("layer", t.x.layer(1, 0), 4);
        t.good("layer", t.x.layer(1, 1), 13);
        t.x.take(0);
        t.good("not the one at hand", t.x.week(1), 45 + 25 + 7);
        t.x.cap(1);
        t.x.take(2);
        t.good("not one with caps", t.x.week(1), 9 + 13 + 45 + 25 + 7);
        t.takeYard("rick a holds 0 layers 99;rick b holds 0 layers 99;breed 100;", 2);
        t.good("two weeks", t.x.week(2), 8 * 99);
        t.x.cap(0);
        t.x.take(1);
        t.good("none come in either", t.x.week(50), 8 * 99);
        t.takeYard("rick a holds 0 layers 99 99 99;rick b holds 0 layers 99 caps;rick c holds 0 layers 99;breed 100;", 3);
        t.x.take(2);
        t.x.last(1);
        t.good("nor one without layers", t.x.week(99), 3 * 9999 + 99);
    }
}
