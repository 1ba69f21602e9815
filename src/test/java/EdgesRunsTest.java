/** The edges that block 2 and promises 19 to 32 name: LAYERS that are taken, RUNS, NETS, DOGS, BOYS, who is OFF. */
public final class EdgesRunsTest {
    public static void main(String[] args) {
        take();
        hour();
        lastInParts();
        lastEnds();
        manyRats();
        bySides();
        noWeights();
        netsInAnHour();
        netsInTheLast();
        dogs();
        boys();
        offToRick();
        sideBySide();
        tailsAndPay();
        rest();
        weeks();
        Due.end();
    }

    private static Due yard(String about, String text, int ricks) {
        Due t = new Due(about);
        t.takeYard(text, ricks);
        return t;
    }

    /** A RICK of one LAYER, taken, with what else there is. */
    private static Due rats(String about, int many, String more) {
        Due t = yard(about, "rick a holds 0 layers " + many + ";" + more, 1);
        t.good("take(0)", t.x.take(0), 1);
        return t;
    }

    private static void take() {
        Due.farmEdge("TAKE: one that has LAYERS left", t -> {
            t.good("take(2)", t.x.take(2), 1);
            t.x.last(1);
            t.refused("take(2)", 9, () -> t.x.take(2));
            t.good("take(1)", t.x.take(1), 2);
            t.refused("take(2)", 9, () -> t.x.take(2));
            t.good("the one AT HAND stays", t.x.many(8), 1);
        });
        Due.farmEdge("TAKE: the one that was is not any more", t -> {
            t.x.take(0);
            t.x.take(1);
            t.good("many(8)", t.x.many(8), 1);
            t.good("its own HOUR", t.x.hour(), 7);
            t.good("the other has its LAYERS", t.x.rick(0, 1), 3);
            t.good("back to it", t.x.take(0), 3);
        });
        Due.farmEdge("TAKE: the one that is AT HAND once more", t -> {
            t.x.take(0);
            t.x.hour();
            t.good("take(0)", t.x.take(0), 2);
            t.good("many(8)", t.x.many(8), 0);
        });
    }

    private static void hour() {
        Due t = yard("HOUR: if it has more than HOLDS, all that are more RUN", "rick a holds 5 layers 2 3 1 0;", 1);
        t.x.take(0);
        t.good("5 are not more", t.x.hour(), 0);
        t.good("no RUN", t.x.many(11), 0);
        t.good("all stay", t.x.layer(0, 0), 5);
        t.good("6 are one more", t.x.hour(), 1);
        t.good("a RUN", t.x.many(11), 1);
        t.good("5 stay", t.x.layer(0, 0), 5);
        t.good("an empty LAYER", t.x.hour(), 0);
        t.good("they go down", t.x.layer(0, 0), 5);
        t.good("one LAYER", t.x.rick(0, 1), 1);
        Due none = yard("HOUR: HOLDS 0", "rick a holds 0 layers 2 3;", 1);
        none.x.take(0);
        none.good("all RUN", none.x.hour(), 5);
        none.good("none stays", none.x.rick(0, 2), 0);
        Due full = yard("HOUR: HOLDS 99", "rick a holds 99 layers 99 0 1;", 1);
        full.x.take(0);
        full.good("99 of 99", full.x.hour(), 0);
        full.good("100 of 99", full.x.hour(), 1);
        Due below = yard("HOUR: what the next LAYER has RUNS, too", "rick a holds 3 layers 0 9;", 1);
        below.x.take(0);
        below.good("hour()", below.x.hour(), 6);
        Due two = yard("HOUR: only while two LAYERS at least are left", "rick a holds 9 layers 1 1;", 1);
        two.refused("none AT HAND", 8, () -> two.x.hour());
        two.x.take(0);
        two.good("of two", two.x.hour(), 0);
        two.refused("of one", 9, () -> two.x.hour());
        two.good("it is there", two.x.layer(0, 0), 2);
    }

    private static void lastInParts() {
        // of runs of 3 a boy with a reach of 2 leaves one, and so on
        int[] off = {5, 3, 1, 0, 0, 0, 0};
        for (int parts = 1; parts <= 7; parts++) {
            Due t = rats("LAST: p RUNS, each of as many, rounded down", 7, "side s weight 1;boy b at s reach 2;");
            t.good("last(" + parts + ")", t.x.last(parts), 7);
            t.good("OFF", t.x.many(10), off[parts - 1]);
            t.good("RUNS", t.x.many(11), parts);
        }
        Due first = rats("LAST: the first ones of one more", 5,
                "side s weight 1;dog d at s catches 2 tires 3;dog e at s catches 1 tires 200;");
        first.good("3, then 2", first.x.last(2), 5);
        first.good("none is OFF, as one would be by 2, then 3", first.x.many(10), 0);
        Due more = rats("a RUN of 0 RATS is none", 19, "");
        more.good("last(20)", more.x.last(20), 19);
        more.good("RUNS", more.x.many(11), 19);
        Due same = rats("LAST in 20 parts", 20, "");
        same.x.last(20);
        same.good("RUNS", same.x.many(11), 20);
        Due most = rats("LAST in 20 parts", 21, "side s weight 1;boy b at s reach 1;");
        most.x.last(20);
        most.good("RUNS", most.x.many(11), 20);
        most.good("the first of two", most.x.many(10), 1);
        Due empty = rats("LAST: a LAYER of no RATS", 0, "");
        empty.good("last(1)", empty.x.last(1), 0);
        empty.good("RUNS", empty.x.many(11), 0);
        empty.good("it is taken", empty.x.rick(0, 1), 0);
    }

    private static void lastEnds() {
        for (int parts : new int[] {0, -1, 21, Integer.MIN_VALUE, Integer.MAX_VALUE}) {
            Due t = rats("promise 25: 1 to 20", 3, "");
            t.refused("last(" + parts + ")", 5, () -> t.x.last(parts));
            t.good("last(20)", t.x.last(20), 3);
        }
        Due two = yard("promise 25: 9: more than one LAYER is left", "rick a holds 9 layers 1 1;", 1);
        two.refused("none AT HAND", 8, () -> two.x.last(1));
        two.x.take(0);
        two.refused("two LAYERS", 9, () -> two.x.last(1));
        two.x.hour();
        two.good("one LAYER", two.x.last(1), 2);
        two.good("none stays", two.x.rick(0, 2), 0);
        two.good("the RICK has no LAYERS then", two.x.rick(0, 1), 0);
        two.refused("no LAYER", 8, () -> two.x.layer(0, 0));
        two.refused("none is AT HAND", 8, () -> two.x.many(8));
        two.refused("nor for an hour", 8, () -> two.x.hour());
        two.refused("nor for another last", 8, () -> two.x.last(1));
        two.refused("nor to be taken", 9, () -> two.x.take(0));
    }

    private static void manyRats() {
        Due week = yard("each LAYER has 9,999 RATS at most: a WEEK", "rick a holds 0 layers 99;breed 100;", 1);
        week.good("six WEEKS", week.x.week(6), 6336);
        week.good("a seventh", week.x.week(1), 9999);
        week.good("an eighth", week.x.week(1), 9999);
        Due down = yard("each LAYER has 9,999 RATS at most: an HOUR", "rick a holds 9 layers 99 99;breed 100;", 1);
        down.good("both LAYERS are full", down.x.week(7), 2 * 9999);
        down.x.take(0);
        down.good("one LAYER's RATS", down.x.hour(), 9990);
        down.good("HOLDS stay", down.x.rick(0, 2), 9);
        Due back = yard("each LAYER has 9,999 RATS at most: back by NETS",
                "rick a holds 9 layers 99 99;side s weight 1 net;breed 100;", 1);
        back.x.week(7);
        back.x.take(0);
        back.good("all that are more RUN", back.x.hour(), 9990);
        back.good("and are back", back.x.layer(0, 0), 9999);
        back.good("all of them in the NET", back.x.last(20), 9999);
        back.good("netted()", back.x.netted(), 9999);
        Due to = yard("each LAYER has 9,999 RATS at most: TO a RICK, as many as that may have",
                "rick a holds 0 layers 20;rick b holds 0 layers 78;side s weight 1 to b;breed 100;", 2);
        to.x.take(0);
        to.good("78 times 128", to.x.week(7), 20 + 9984);
        to.good("last(4)", to.x.last(4), 20);
        to.good("15 of 20 came in", to.x.layer(1, 0), 9999);
        to.good("all are OFF", to.x.side(0, 3), 20);
        Due all = yard("9,999 RATS RUN", "rick a holds 0 layers 99;side s weight 9;side t weight 9;side u weight 9;"
                + "side v weight 9;breed 100;", 1);
        all.x.week(99);
        all.x.take(0);
        all.good("last(1)", all.x.last(1), 9999);
        int[] off = {2500, 2500, 2500, 2499};
        for (int i = 0; i < 4; i++) {
            all.good("OFF", all.x.side(i, 3), off[i]);
        }
    }

    private static void bySides() {
        Due t = yard("RUN: n times the WEIGHT by all WEIGHTS, rounded down; what is left by 1 each",
                "side s weight 2;side t weight 0;side u weight 1;side v weight 9;", 0);
        int[][] due = {{0, 0, 0, 0}, {1, 0, 0, 0}, {1, 0, 0, 1}, {1, 0, 0, 2}, {1, 0, 0, 3}, {1, 0, 1, 3}, {2, 0, 0, 4},
            {2, 0, 0, 5}, {2, 0, 0, 6}, {2, 0, 1, 6}, {2, 0, 1, 7}, {2, 0, 1, 8}, {2, 0, 1, 9}, {3, 0, 1, 9}};
        for (int n = 0; n < due.length; n++) {
            for (int side = 0; side < 4; side++) {
                t.good("toSide(" + n + ", " + side + ")", t.x.toSide(n, side), due[n][side]);
            }
        }
        int[] most = {1667, 0, 833, 7499};
        for (int side = 0; side < 4; side++) {
            t.good("toSide(9999, " + side + ")", t.x.toSide(9999, side), most[side]);
        }
        Due alone = yard("RUN: one SIDE with a WEIGHT", "side s weight 0;side t weight 1;", 0);
        alone.good("none", alone.x.toSide(9999, 0), 0);
        alone.good("all", alone.x.toSide(9999, 1), 9999);
    }

    private static void noWeights() {
        Due zero = rats("RUN: all WEIGHTS 0: all to nowhere, they are OFF", 8,
                "side s weight 0 to a;side t weight 0 net;boy b at s reach 9;");
        zero.good("toSide", zero.x.toSide(8, 0) + zero.x.toSide(8, 1), 0);
        zero.good("OFF in an HOUR", zero.x.run(8, false, 1), 8);
        zero.good("none goes back", zero.x.run(8, false, 2), 0);
        zero.good("OFF in the LAST", zero.x.run(8, true, 1), 8);
        zero.x.last(2);
        zero.good("OFF", zero.x.many(10), 8);
        zero.good("RUNS", zero.x.many(11), 2);
        zero.good("at no SIDE", zero.x.side(0, 3) + zero.x.side(1, 3), 0);
        zero.good("not in the NET", zero.x.netted(), 0);
        Due none = rats("RUN: no SIDES: all to nowhere, they are OFF", 8, "");
        none.good("run", none.x.run(8, false, 1), 8);
        none.x.last(1);
        none.good("OFF", none.x.many(10), 8);
        none.good("caught", none.x.many(9), 0);
    }

    private static void netsInAnHour() {
        Due t = yard("at a NET: they go back into the LAYER",
                "rick a holds 1 layers 4 3;side s weight 1 net;side t weight 1;dog d at s catches 9 tires 9;", 1);
        t.x.take(0);
        t.good("hour()", t.x.hour(), 6);
        t.good("3 are back", t.x.layer(0, 0), 4);
        t.good("3 are OFF", t.x.side(1, 3), 3);
        t.good("nobody catches at a NET", t.x.dog(0, 3), 0);
        t.good("nor the NET itself", t.x.netted(), 0);
        Due all = yard("at NETS all around: all go back", "rick a holds 0 layers 4 3;side s weight 1 net;", 1);
        all.x.take(0);
        all.good("hour()", all.x.hour(), 7);
        all.good("more than HOLDS", all.x.layer(0, 0), 7);
        all.good("a RUN it was", all.x.many(11), 1);
        all.good("none is caught", all.x.many(9), 0);
    }

    private static void netsInTheLast() {
        Due round = rats("LAST: on to the next SIDE by numbers, round", 4,
                "side s weight 0;side t weight 1;side u weight 1 net;side v weight 2 net;");
        round.x.last(1);
        round.good("from v, and from u past it, to s, which has no WEIGHT", round.x.side(0, 3), 3);
        round.good("t has its own", round.x.side(1, 3), 1);
        Due next = rats("LAST: the next SIDE that has a gap", 6,
                "side s weight 3 net;side t weight 0 net;side u weight 0;side v weight 3;");
        next.x.last(1);
        next.good("past t to u", next.x.side(2, 3), 3);
        next.good("not to v", next.x.side(3, 3), 3);
        Due one = rats("LAST: all of them to it", 8,
                "side s weight 1 net;side t weight 1 net;side u weight 1;side v weight 1 net;boy b at u reach 9;");
        one.x.last(1);
        one.good("all of three NETS", one.x.boy(0, 2), 8);
        Due none = rats("LAST: if none has they are caught in the NET", 5, "side s weight 1 net;side t weight 0 net;"
                + "dog d at s catches 9 tires 9;boy b at s reach 9;penny 9;");
        none.x.last(2);
        none.good("netted()", none.x.netted(), 5);
        none.good("caught", none.x.many(9), 5);
        none.good("OFF", none.x.many(10), 0);
        none.good("nobody else has TAILS", none.x.dog(0, 3) + none.x.boy(0, 2), 0);
        none.good("nothing is paid for them", none.x.pay(), 0);
        Due alone = rats("LAST: one SIDE alone, with a NET", 5, "side s weight 1 net;");
        alone.x.last(1);
        alone.good("netted()", alone.x.netted(), 5);
    }

    private static void dogs() {
        Due order = rats("at a gap: the DOGS there, by numbers", 5,
                "side s weight 1;side t weight 0;dog d at s catches 3 tires 9;dog e at t catches 9 tires 9;"
                + "dog f at s catches 9 tires 9;");
        order.x.last(1);
        order.good("the first", order.x.dog(0, 3), 3);
        order.good("one elsewhere", order.x.dog(1, 3), 0);
        order.good("the rest", order.x.dog(2, 3), 2);
        Due tires = rats("at a gap: no more than till they are TIRED", 9,
                "side s weight 1;dog d at s catches 20 tires 7;");
        tires.good("not tired", tires.x.tired(), 0);
        tires.x.last(1);
        tires.good("TAILS", tires.x.dog(0, 3), 7);
        tires.good("tired", tires.x.tired(), 1);
        tires.good("OFF", tires.x.many(10), 2);
        Due almost = rats("at a gap: one less than TIRES is not TIRED", 6,
                "side s weight 1;dog d at s catches 20 tires 7;");
        almost.x.last(1);
        almost.good("not tired", almost.x.tired(), 0);
        almost.good("one more", almost.x.run(9, true, 0), 1);
        Due catches = rats("at a gap: up to CATCHES in a RUN", 9, "side s weight 1;dog d at s catches 2 tires 5;");
        catches.x.last(3);
        catches.good("2, 2 and 1", catches.x.dog(0, 3), 5);
        catches.good("tired", catches.x.tired(), 1);
        Due most = yard("at a gap: CATCHES 20, TIRES 200", "rick a holds 0 layers 50 50 50 50 50;side s weight 1;"
                + "dog d at s catches 20 tires 200;", 1);
        most.x.take(0);
        for (int i = 0; i < 4; i++) {
            most.x.hour();
        }
        most.good("80 of 200", most.x.dog(0, 3), 80);
        most.good("not tired", most.x.tired(), 0);
        most.good("20 in a RUN of 999", most.x.run(999, false, 0), 20);
    }

    private static void boys() {
        String two = "side s weight 1;side t weight 0;dog d at s catches 3 tires 99;boy b at s reach 0;";
        Due less = rats("at a gap: CATCHES less the number of BOYS there", 9, two + "boy c at t reach 9;");
        less.x.last(1);
        less.good("one BOY is in the way, though he catches none", less.x.dog(0, 3), 2);
        less.good("REACH 0", less.x.boy(0, 2), 0);
        less.good("OFF", less.x.many(10), 7);
        Due none = rats("at a gap: as many BOYS as it CATCHES", 9, two + "boy c at s reach 0;boy e at s reach 0;");
        none.x.last(1);
        none.good("none", none.x.dog(0, 3), 0);
        Due more = rats("at a gap: more BOYS than it CATCHES", 9, two + "boy c at s reach 0;boy e at s reach 0;"
                + "boy f at s reach 9;");
        more.x.last(1);
        more.good("none, and not below", more.x.dog(0, 3), 0);
        more.good("the BOY has all", more.x.boy(3, 2), 9);
        Due order = rats("at a gap: then the BOYS there, by numbers, up to REACH each", 9,
                "side s weight 1;boy b at s reach 4;boy c at s reach 9;boy d at s reach 9;");
        order.x.last(1);
        order.good("the first", order.x.boy(0, 2), 4);
        order.good("the second", order.x.boy(1, 2), 5);
        order.good("none is left", order.x.boy(2, 2), 0);
        Due never = rats("a BOY does not tire", 99, "side s weight 1;boy b at s reach 5;");
        never.x.last(20);
        never.good("TAILS", never.x.boy(0, 2), 99);
    }

    private static void offToRick() {
        Due low = yard("OFF TO a RICK: at once into its lowest LAYER",
                "rick a holds 0 layers 6;rick b holds 9 layers 1 2 3;side s weight 1 to b;", 2);
        low.x.take(0);
        low.x.last(2);
        int[] layers = {1, 2, 9};
        for (int k = 0; k < 3; k++) {
            low.good("layer", low.x.layer(1, k), layers[k]);
        }
        low.good("they are OFF", low.x.many(10), 6);
        Due gone = yard("OFF TO a RICK: none if it has no LAYERS",
                "rick a holds 0 layers 6;rick b holds 9 layers 1;side s weight 1 to b;", 2);
        gone.x.take(1);
        gone.x.last(1);
        gone.x.take(0);
        gone.x.last(1);
        gone.good("none came", gone.x.rick(1, 2), 0);
        gone.good("OFF all the same", gone.x.side(0, 3), 7);
        Due own = yard("OFF TO a RICK: nor in its own LAST run",
                "rick a holds 0 layers 2 3 4;side s weight 1 to a;", 1);
        own.x.take(0);
        own.good("an HOUR", own.x.hour(), 5);
        own.good("into its own lowest LAYER", own.x.layer(0, 1), 9);
        own.good("not into the one that is taken", own.x.layer(0, 0), 0);
        own.good("an HOUR more: the lowest is the upper one", own.x.hour(), 9);
        own.good("they are back in it", own.x.layer(0, 0), 9);
        own.good("the LAST", own.x.last(3), 9);
        own.good("none came", own.x.rick(0, 2), 0);
        own.good("OFF", own.x.many(10), 23);
    }

    private static void sideBySide() {
        Due t = yard("all this SIDE by SIDE: two SIDES TO one RICK", "rick a holds 0 layers 20;"
                + "rick b holds 0 layers 78;side s weight 1 to b;side u weight 1 to b;breed 100;", 2);
        t.x.take(0);
        t.x.week(7);
        t.x.last(1);
        t.good("ten of the first, five of the second came in", t.x.layer(1, 0), 9999);
        t.good("OFF", t.x.side(0, 3), 10);
        t.good("OFF", t.x.side(1, 3), 10);
        Due dog = rats("first all go to the SIDES, those from NETS on to gaps", 6,
                "side s weight 1;side t weight 1 net;side u weight 1;dog d at s catches 9 tires 9;");
        dog.x.last(1);
        dog.good("s has its own alone", dog.x.dog(0, 3), 2);
        dog.good("u has those of t", dog.x.side(2, 3), 4);
    }

    private static void tailsAndPay() {
        for (int penny : new int[] {0, 1, 9}) {
            Due t = rats("PAY: TAILS of DOGS and BOYS times PENNY", 9,
                    "side s weight 1;dog d at s catches 4 tires 9;boy b at s reach 2;penny " + penny + ";");
            t.good("pay() ahead", t.x.pay(), 0);
            t.x.last(1);
            t.good("pay()", t.x.pay(), 5 * penny);
        }
        Due none = new Due("promise 21: 8: none");
        none.denied("share()", 8, () -> none.x.share());
        Due off = rats("promise 21: none caught", 9, "");
        off.x.last(1);
        off.good("share()", off.x.share());
        off.fraction(0, 1);
        Due all = rats("promise 21: all caught", 9, "side s weight 1;boy b at s reach 9;");
        all.x.last(1);
        all.good("share()", all.x.share());
        all.fraction(1, 1);
        Due some = rats("FRACTIONS without a common divisor", 9, "side s weight 1;boy b at s reach 6;");
        some.x.last(1);
        some.good("share()", some.x.share());
        some.fraction(2, 3);
        some.x.yard(0);
        some.denied("share() of nothing", 8, () -> some.x.share());
        some.fraction(2, 3);
    }

    private static void rest() {
        Due none = new Due("promise 31: no DOGS");
        none.good("rest()", none.x.rest(), 0);
        Due t = yard("promise 31: how many were TIRED", "rick a holds 0 layers 9 0 9;side s weight 1;"
                + "dog d at s catches 1 tires 1;dog e at s catches 2 tires 2;dog f at s catches 2 tires 3;", 1);
        t.x.take(0);
        t.x.hour();
        t.good("tired()", t.x.tired(), 3);
        t.good("rest()", t.x.rest(), 2);
        t.good("tired()", t.x.tired(), 0);
        t.good("rest() once more", t.x.rest(), 0);
        t.good("TAILS stay theirs", t.x.dog(0, 3) + 10 * t.x.dog(1, 3) + 100 * t.x.dog(2, 3), 221);
        t.x.hour();
        t.good("1, 2 and 2 more, as if fresh", t.x.dog(0, 3) + 10 * t.x.dog(1, 3) + 100 * t.x.dog(2, 3), 442);
        t.good("those that were not TIRED are fresh, too", t.x.tired(), 3);
    }

    private static void weeks() {
        for (int weeks : new int[] {0, -1, 100, Integer.MIN_VALUE, Integer.MAX_VALUE}) {
            Due.farmEdge("promise 32: WEEKS (1 to 99)", t -> t.refused("week(" + weeks + ")", 5, () -> t.x.week(weeks)));
        }
        Due.edge("promise 32: no RICKS", t -> t.good("week(99)", t.x.week(99), 0));
        Due most = yard("promise 32: WEEKS (1 to 99)", "rick a holds 0 layers 50;breed 2;", 1);
        most.good("week(1)", most.x.week(1), 51);
        int rats = 51;
        for (int i = 0; i < 99; i++) {
            rats += rats * 2 / 100;
        }
        most.good("week(99)", most.x.week(99), rats);
        Due t = yard("a WEEK: BREED hundredths of them more, rounded down", "rick a holds 0 layers 1 2 3 4 99;breed 25;", 1);
        t.good("week(1)", t.x.week(1), 1 + 2 + 3 + 5 + 123);
        Due zero = yard("a WEEK: BREED 0", "rick a holds 0 layers 99;", 1);
        zero.good("week(99)", zero.x.week(99), 99);
        Due all = yard("a WEEK: BREED 100", "rick a holds 0 layers 1 0;breed 100;", 1);
        all.good("week(1)", all.x.week(1), 2);
        Due hand = yard("a WEEK: not AT HAND, LAYERS left, no CAPS", "rick a holds 0 layers 4;rick b holds 0 layers 4;"
                + "rick c holds 0 layers 4 caps;rick d holds 0 layers 4;breed 50;", 4);
        hand.x.take(3);
        hand.x.last(1);
        hand.x.take(0);
        hand.good("week(1): b alone", hand.x.week(1), 4 + 6 + 4);
        hand.x.take(1);
        hand.good("week(1): a alone", hand.x.week(1), 6 + 6 + 4);
        hand.good("d has none", hand.x.rick(3, 2), 0);
    }
}
