import java.util.Collections;

/** Promises 9 to 22: the tape, YARDS and their FAULTS, what is told of a YARD. (DAYS' FAULTS: DaysTest.) */
public final class TextsTest {
    public static void main(String[] args) {
        feed();
        tapeAndYard();
        yardRules();
        tokens();
        namesTaken();
        numbersThatCantBe();
        oneTooMany();
        leastKind();
        faultTells();
        newYard();
        nothingOfTheOldYard();
        longTexts();
        fourOfEach();
        toldOfFarm();
        netsAndShares();
        copyLayers();
        Due.end();
    }

    private static void feed() {
        Due t = new Due("promise 9");
        for (int i = 1; i <= 45; i++) {
            t.is("feed()", t.x.feed(0, 0, 0, 0, 0), 20 * i);
        }
        t.is("feed() above 900", t.x.feed(0, 0, 0, 0, 0), -1);
        t.bad("yard of bytes 0", t.x.yard(900), 10);
        t.is("fault(0)", t.x.fault(0), 1);
        t.is("feed() of an empty tape", t.x.feed(0, 0, 0, 0, 0), 20);
        t.x.yard(0);
        t.is("bytes: the highest first", t.x.feed(0x70656e6e, 0x7920373b, 0x20202020, 0x20202020, 0x20202020), 20);
        t.good("yard", t.x.yard(8), 0);
        t.good("PENNY", t.x.many(4), 7);
    }

    private static void tapeAndYard() {
        Due t = new Due("promise 10");
        Due.feed(t.x, "penny 5;");
        t.bad("yard(-1)", t.x.yard(-1), 5);
        t.bad("yard(21)", t.x.yard(21), 5);
        t.is("fault(0)", t.x.fault(0), -1);
        t.good("yard(8): the tape was kept", t.x.yard(8), 0);
        t.good("PENNY", t.x.many(4), 5);
        t.bad("the tape is empty then", t.x.yard(1), 5);
        Due.feed(t.x, "penny 6;");
        t.bad("yard(7)", t.x.yard(7), 10);
        t.is("fault(0)", t.x.fault(0), 2);
        t.is("fault(1)", t.x.fault(1), 7);
        t.good("the old one stays", t.x.many(4), 5);
        t.bad("the tape is empty behind a fault, too", t.x.yard(1), 5);
        t.good("yard(0)", t.x.yard(0), 0);
        t.good("PENNY", t.x.many(4), 1);
        StringBuilder text = new StringBuilder("cost 7;");
        text.append(String.join("", Collections.nCopies(893, "\n")));
        t.takeYard(text.toString(), 0);
        t.good("COST", t.x.many(7), 7);
    }

    private static void yardRules() {
        Due t = new Due("promise 10");
        t.takeYard("rick a holds 0 layers 0;", 1);
        t.takeYard("rick a holds 99 layers 99 0 99 0 99 0 99 0 caps;side b weight 9 net to a;side c weight 0 to a;"
                + "side d weight 1 net;side e weight 1;dog f at b catches 20 tires 200;dog g at c catches 1 tires 1;"
                + "boy h at d reach 0;boy i at e reach 9;penny 0;corn 0;breed 100;cost 999;", 1);
        t.refuseYard("farm;", 2, 0);
        t.refuseYard("12;", 2, 0);
        t.refuseYard(";", 2, 0);
        t.refuseYard("holds", 2, 0);
        t.refuseYard("take a;", 2, 0);
        t.refuseYard("rick", 2, 4);
        t.refuseYard("rick  \n", 2, 7);
        t.refuseYard("rick 7", 2, 5);
        t.refuseYard("rick a hold 7", 2, 7);
        t.refuseYard("rick a holds ;", 2, 13);
        t.refuseYard("rick a holds 1 layers;", 2, 21);
        t.refuseYard("rick a holds 1 layers caps;", 2, 22);
        t.refuseYard("rick a holds 1 layers 1 caps 2;", 2, 29);
        t.refuseYard("rick a holds 1 layers 1 net;", 2, 24);
        t.refuseYard("rick a holds 1 layers 1", 2, 23);
        t.refuseYard("side a weight 1 to b;", 3, 19);
        t.refuseYard("rick a holds 1 layers 1;side b weight 1 to a net;", 2, 45);
        t.refuseYard("side a weight net;", 2, 14);
        t.refuseYard("side a weight 1 net net;", 2, 20);
        t.refuseYard("side a weight 1;dog b catches 2;", 2, 22);
        t.refuseYard("side a weight 1;dog b at a tires 2;", 2, 27);
        t.refuseYard("side a weight 1;dog b at a catches 2;", 2, 36);
        t.refuseYard("side a weight 1;boy b at a catches 2;", 2, 27);
        t.refuseYard("penny;", 2, 5);
        t.refuseYard("penny 1 2;", 2, 8);
        t.refuseYard("penny 1<", 2, 7);
    }

    private static void tokens() {
        Due t = new Due("promise 10");
        t.takeYard("rick a holds 1layers 2caps;side b\nweight 1net to a;", 1);
        t.takeYard("penny 0009;corn 00;", 0);
        t.good("PENNY", t.x.many(4), 9);
        t.good("CORN", t.x.many(5), 0);
        t.refuseYard("penny 1; Rick", 1, 9);
        t.refuseYard("penny\t1;", 1, 5);
        t.refuseYard("penny 1,", 1, 7);
        t.refuseYard("penny -1;", 1, 6);
        t.refuseYard("penny 1;\r", 1, 8);
        t.refuseYard("penny 00001;", 1, 6);
        t.refuseYard("12345", 1, 0);
        t.refuseYard("\u00e9", 1, 0);
        t.refuseYard("rick a\u0000", 1, 6);
        t.refuseYard("rick a holds 1 layers 2 12345;", 1, 24);
        t.refuseYard("rick a holds 100 layers 12345;", 4, 13);
        t.takeYard("rick abcdefgh holds 1 layers 1;", 1);
        t.refuseYard("rick abcdefghi holds 1 layers 1;", 2, 5);
        t.refuseYard("rickrick a holds 1 layers 1;", 2, 0);
        t.takeYard("rick rickrick holds 1 layers 1;", 1);
        for (String word : Model.WORDS) {
            t.refuseYard("rick " + word + " holds 1 layers 1;", 2, 5);
            t.takeYard("rick " + word + "x holds 1 layers 1;", 1);
            t.takeYard("rick x" + word.substring(1) + " holds 1 layers 1;", 1);
            t.takeYard("rick x" + word.substring(0, word.length() - 1) + " holds 1 layers 1;", 1);
        }
    }

    private static void namesTaken() {
        Due t = new Due("promise 10");
        String rick = "rick a holds 1 layers 1;";
        String side = "side b weight 1;";
        String dog = "dog c at b catches 1 tires 1;";
        String boy = "boy d at b reach 1;";
        String all = rick + side + dog + boy;
        t.takeYard(all, 1);
        for (String name : new String[] {"a", "b", "c", "d"}) {
            t.refuseYard(all + "rick " + name + " ", 3, all.length() + 5);
            t.refuseYard(all + "side " + name + " ", 3, all.length() + 5);
            t.refuseYard(all + "dog " + name + " ", 3, all.length() + 4);
            t.refuseYard(all + "boy " + name + " ", 3, all.length() + 4);
        }
        t.refuseYard(all + "side e weight 1 to b;", 3, all.length() + 19);
        t.refuseYard(all + "dog e at a catches 1 tires 1;", 3, all.length() + 9);
        t.refuseYard(all + "boy e at c reach 1;", 3, all.length() + 9);
        t.refuseYard("side s weight 1 to r;rick r holds 1 layers 1;", 3, 19);
        t.refuseYard("dog s at s catches 1 tires 1;", 3, 9);
    }

    private static void numbersThatCantBe() {
        Due t = new Due("promise 10");
        t.refuseYard("rick a holds 100 layers 1;", 4, 13);
        t.refuseYard("rick a holds 1 layers 100;", 4, 22);
        t.refuseYard("rick a holds 1 layers 1 100;", 4, 24);
        t.refuseYard("side a weight 10;", 4, 14);
        String side = "side a weight 1;";
        t.refuseYard(side + "dog b at a catches 0 tires 1;", 4, 35);
        t.refuseYard(side + "dog b at a catches 21 tires 1;", 4, 35);
        t.refuseYard(side + "dog b at a catches 1 tires 0;", 4, 43);
        t.refuseYard(side + "dog b at a catches 1 tires 201;", 4, 43);
        t.refuseYard(side + "boy b at a reach 10;", 4, 33);
        t.refuseYard("penny 10;", 4, 6);
        t.refuseYard("corn 10;", 4, 5);
        t.refuseYard("breed 101;", 4, 6);
        t.refuseYard("cost 1000;", 4, 5);
    }

    private static void oneTooMany() {
        Due t = new Due("promise 10");
        String ricks = "";
        String sides = "";
        String dogs = "side s weight 1;";
        String boys = "side s weight 1;";
        for (char c = 'a'; c < 'e'; c++) {
            ricks += "rick " + c + " holds 1 layers 1;";
            sides += "side " + c + " weight 1;";
            dogs += "dog " + c + " at s catches 1 tires 1;";
            boys += "boy " + c + " at s reach 1;";
        }
        t.takeYard(ricks, 4);
        t.takeYard(sides, 0);
        t.takeYard(dogs, 0);
        t.takeYard(boys, 0);
        t.refuseYard(ricks + "rick", 6, ricks.length());
        t.refuseYard(sides + "side", 6, sides.length());
        t.refuseYard(dogs + "dog", 6, dogs.length());
        t.refuseYard(boys + "boy", 6, boys.length());
        for (String word : new String[] {"penny", "corn", "breed", "cost"}) {
            t.refuseYard("penny 0;corn 0;breed 0;cost 0;" + word, 5, 30);
        }
    }

    private static void leastKind() {
        Due t = new Due("promise 10");
        String eight = "rick a holds 1 layers 1 2 3 4 5 6 7 8";
        t.takeYard(eight + ";", 1);
        t.refuseYard(eight + " 9;", 6, 38);
        t.refuseYard(eight + " 0;", 6, 38);
        t.refuseYard(eight + " 99;", 6, 38);
        t.refuseYard(eight + " 100;", 4, 38);
        t.refuseYard(eight + " 10000;", 1, 38);
        t.refuseYard(eight + " x;", 2, 38);
        t.refuseYard("rick a holds 1 layers 1;rick a holds 100", 3, 29);
        t.refuseYard("rick a holds 100 layers ?", 4, 13);
    }

    private static void faultTells() {
        Due t = new Due("promise 12");
        t.is("fault(0)", t.x.fault(0), -1);
        t.refuseYard("corn ?", 1, 5);
        t.bad("yard(5)", t.x.yard(5), 5);
        t.is("fault(0) behind STATUS 5", t.x.fault(0), 1);
        t.is("fault(1) behind STATUS 5", t.x.fault(1), 5);
        t.is("fault(2)", t.x.fault(2), -1);
        t.is("fault(-1)", t.x.fault(-1), -1);
        t.refuseDays("go;", 2, 0);
        t.takeDays("stop;", 1);
        t.x.mark();
        t.refuseDays(" stop", 2, 5);
        t.x.back();
        t.is("fault(1) behind back()", t.x.fault(1), 5);
    }

    private static void newYard() {
        Due t = Due.farm("a yard in place of that ahead");
        t.x.cap(0);
        t.x.net(0);
        t.x.net(1);
        t.x.take(2);
        t.x.last(1);
        t.x.gap(0);
        t.x.take(0);
        t.x.hour();
        t.x.hour();
        t.takeDays("wind;", 1);
        t.refuseYard("penny", 2, 5);
        t.good("the old one stays: OFF", t.x.many(10) > 0 ? 1 : 0, 1);
        t.good("the old days stay", t.x.live(0), 1);
        t.takeYard(Due.FARM, 3);
        t.bad("none at hand", t.x.many(8), 8);
        for (int what = 9; what < 12; what++) {
            t.good("many(" + what + ")", t.x.many(what), 0);
        }
        t.good("netted()", t.x.netted(), 0);
        t.good("tails", t.x.dog(0, 3) + t.x.dog(1, 3) + t.x.boy(0, 2), 0);
        t.good("off at sides", t.x.side(0, 3) + t.x.side(1, 3) + t.x.side(2, 3), 0);
        t.good("weight", t.x.side(0, 0), 3);
        t.good("tired()", t.x.tired(), 0);
        t.bad("no days", t.x.live(0), 8);
        t.good("pence spent are of the yard", t.x.cap(0), 100);
    }

    private static void nothingOfTheOldYard() {
        Due t = new Due("a yard in place of that ahead");
        t.takeYard("rick a holds 9 layers 7 7 caps;side b weight 9 net to a;dog c at b catches 9 tires 9;"
                + "boy d at b reach 9;penny 9;corn 9;breed 99;cost 9;", 1);
        t.good("to the first rick", t.x.side(0, 2), 0);
        t.takeYard("rick a holds 1 layers 1;side b weight 1;", 1);
        t.good("layers", t.x.rick(0, 1), 1);
        t.good("caps", t.x.rick(0, 3), 0);
        t.good("net", t.x.side(0, 1), 0);
        t.bad("to", t.x.side(0, 2), 8);
        t.good("dogs", t.x.many(2), 0);
        t.good("boys", t.x.many(3), 0);
        t.good("penny", t.x.many(4), 1);
        t.good("corn", t.x.many(5), 1);
        t.good("breed", t.x.many(6), 0);
        t.good("cost", t.x.many(7), 0);
    }

    private static void longTexts() {
        Due t = new Due("promise 10");
        t.refuseYard(String.join("", Collections.nCopies(900, ";")), 2, 0);
        t.refuseYard(String.join("", Collections.nCopies(900, "z")), 2, 0);
        t.refuseYard(String.join("", Collections.nCopies(900, "0")), 1, 0);
        t.refuseYard(String.join("", Collections.nCopies(899, " ")) + "?", 1, 899);
        t.refuseYard("penny 1;" + String.join("", Collections.nCopies(892, "=")), 2, 8);
        t.takeYard("rick zzzzzzzz holds 1 layers 1;rick zzzzzzzy holds 1 layers 1;rick az holds 1 layers 1;"
                + "rick z holds 1 layers 1;", 4);
    }

    private static void fourOfEach() {
        Due t = new Due("promises 13 to 18");
        t.takeYard("rick a holds 1 layers 1;rick b holds 2 layers 2;rick c holds 3 layers 3;rick d holds 4 layers 4;"
                + "side e weight 1 to d;side f weight 2 to c;side g weight 3 to b;side h weight 4 to a;"
                + "dog i at h catches 1 tires 1;dog j at g catches 2 tires 2;dog k at f catches 3 tires 3;"
                + "dog l at e catches 4 tires 4;boy m at h reach 1;boy n at g reach 2;boy o at f reach 3;"
                + "boy p at e reach 4;", 4);
        for (int i = 0; i < 4; i++) {
            t.good("holds", t.x.rick(i, 0), i + 1);
            t.good("rats", t.x.layer(i, 0), i + 1);
            t.good("weight", t.x.side(i, 0), i + 1);
            t.good("to", t.x.side(i, 2), 3 - i);
            t.good("at", t.x.dog(i, 0), 3 - i);
            t.good("catches", t.x.dog(i, 1), i + 1);
            t.good("tires", t.x.dog(i, 2), i + 1);
            t.good("at", t.x.boy(i, 0), 3 - i);
            t.good("reach", t.x.boy(i, 1), i + 1);
        }
        t.bad("a fifth", t.x.dog(4, 0), 2);
        callsWithFourOfEach(t);
    }

    private static void callsWithFourOfEach(Due t) {
        t.good("rest()", t.x.rest(), 0);
        t.good("tired()", t.x.tired(), 0);
        t.good("proudest()", t.x.proudest(), 0);
        t.good("week(1)", t.x.week(1), 10);
        // one a rick, and the boy is in the way of each dog
        t.good("bestNets(3, 1): 1, 1, 1, 1 by boys", t.x.bestNets(3, 1), 0);
        t.good("netSet()", t.x.netSet(), 0);
        t.good("bestPlaces(3, 1)", t.x.bestPlaces(3, 1), 0);
        t.good("bestOrder(1)", t.x.bestOrder(1), 10);
        t.good("dearest(3, 1)", t.x.dearest(3, 1), 0);
        t.takeDays("wind;", 1);
        t.good("live(0)", t.x.live(0), 1);
        t.good("mark()", t.x.mark(), 1);
        t.good("back()", t.x.back(), 0);
    }

    private static void toldOfFarm() {
        Due t = Due.farm("promises 13 to 18");
        int[] sums = {3, 3, 2, 1, 2, 3, 50, 100};
        for (int what = 0; what < 8; what++) {
            t.good("many(" + what + ")", t.x.many(what), sums[what]);
        }
        t.bad("many(-1)", t.x.many(-1), 5);
        t.bad("many(12)", t.x.many(12), 5);
        int[][] ricks = {{10, 3, 30, 0}, {5, 2, 12, 0}, {99, 1, 7, 1}};
        int[][] sides = {{3, 0, -1, 0}, {2, 0, 1, 0}, {1, 1, -1, 0}};
        int[][] dogs = {{0, 4, 10, 0}, {1, 2, 100, 0}};
        for (int what = 0; what < 4; what++) {
            for (int i = 0; i < 3; i++) {
                t.good("rick", t.x.rick(i, what), ricks[i][what]);
                t.is("side", t.x.side(i, what), sides[i][what]);
                t.is("status()", t.x.status(), sides[i][what] < 0 ? 8 : 0);
            }
            t.good("dog", t.x.dog(0, what), dogs[0][what]);
            t.good("dog", t.x.dog(1, what), dogs[1][what]);
        }
        int[] boy = {0, 2, 0};
        for (int what = 0; what < 3; what++) {
            t.good("boy", t.x.boy(0, what), boy[what]);
        }
        for (int bad : new int[] {-1, 4}) {
            t.bad("rick 3", t.x.rick(3, bad), 2);
            t.bad("rick -1", t.x.rick(-1, 0), 2);
            t.bad("rick's what", t.x.rick(0, bad), 5);
            t.bad("side 3", t.x.side(3, bad), 2);
            t.bad("side -1", t.x.side(-1, 0), 2);
            t.bad("side's what", t.x.side(0, bad), 5);
            t.bad("dog 2", t.x.dog(2, bad), 2);
            t.bad("dog -1", t.x.dog(-1, 0), 2);
            t.bad("dog's what", t.x.dog(0, bad), 5);
            t.bad("boy 1", t.x.boy(1, bad), 2);
            t.bad("boy -1", t.x.boy(-1, 0), 2);
        }
        t.bad("boy's what", t.x.boy(0, 3), 5);
        t.bad("boy's what", t.x.boy(0, -1), 5);
        layers(t);
    }

    private static void layers(Due t) {
        int[] oat = {4, 6, 20};
        for (int k = 0; k < 3; k++) {
            t.good("layer", t.x.layer(0, k), oat[k]);
        }
        t.bad("layer of rick 3", t.x.layer(3, 0), 2);
        t.bad("layer 3", t.x.layer(0, 3), 8);
        t.bad("layer -1", t.x.layer(0, -1), 8);
        t.x.take(0);
        t.x.hour();
        t.good("the upper one that is left", t.x.layer(0, 0), 10);
        t.good("the next one", t.x.layer(0, 1), 20);
        t.bad("no third any more", t.x.layer(0, 2), 8);
        t.good("layers left", t.x.rick(0, 1), 2);
        t.good("at hand", t.x.many(8), 0);
        t.x.take(2);
        t.x.last(1);
        t.bad("no layers", t.x.layer(2, 0), 8);
        t.good("no layers", t.x.rick(2, 1), 0);
    }

    private static void netsAndShares() {
        Due t = Due.farm("promises 19 to 21");
        t.bad("share()", t.x.share(), 8);
        t.fraction(0, 1);
        t.good("pay()", t.x.pay(), 0);
        t.x.net(0);
        t.x.net(1);
        t.x.take(2);
        t.x.last(3);
        t.good("netted()", t.x.netted(), 7);
        t.good("pay()", t.x.pay(), 0);
        t.good("share()", t.x.share());
        t.fraction(1, 1);
        t.x.mark();
        t.takeYard("rick a holds 0 layers 1;", 1);
        t.x.take(0);
        t.x.last(1);
        t.good("share() of one", t.x.share());
        t.fraction(0, 1);
        t.x.back();
        t.x.gap(0);
        t.x.gap(1);
        t.x.take(0);
        t.x.hour();
        t.x.hour();
        t.good("pay() for seven", t.x.pay(), 14);
        t.good("share()", t.x.share());
        t.fraction(7, 12);
    }

    private static void copyLayers() {
        Due t = Due.farm("promise 22");
        t.bad("tray 4", t.x.copyLayers(9, 4), 1);
        t.bad("missing", t.x.copyLayers(9, 0), 3);
        t.x.tray(0, 1, 2);
        t.bad("rick 9", t.x.copyLayers(9, 0), 2);
        t.bad("too few places", t.x.copyLayers(0, 0), 4);
        t.good("nothing was written", t.x.read(0, 0), 0);
        t.good("copyLayers", t.x.copyLayers(1, 0), 2);
        t.good("read", t.x.read(0, 0), 3);
        t.good("read", t.x.read(0, 1), 9);
        t.x.take(1);
        t.x.hour();
        t.good("one is left", t.x.copyLayers(1, 0), 1);
        t.good("read", t.x.read(0, 0), 6);
        t.good("the other place stays", t.x.read(0, 1), 9);
        t.x.last(1);
        t.good("none is left", t.x.copyLayers(1, 0), 0);
        t.takeYard("rick a holds 9 layers 99;breed 100;", 1);
        t.x.week(1);
        t.x.tray(1, 0, 1);
        t.good("copyLayers", t.x.copyLayers(0, 1), 1);
        t.good("198 in 8 bits", t.x.read(1, 0), 198 - 256);
    }
}
