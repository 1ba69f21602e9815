/** Promises 55 and 56: MARKS. */
public final class MarksTest {
    public static void main(String[] args) {
        counts();
        takenBack();
        namesAndDays();
        othersStay();
        Due.end();
    }

    private static void counts() {
        Due t = new Due("promises 55 and 56");
        t.bad("back()", t.x.back(), 8);
        for (int i = 1; i <= 3; i++) {
            t.good("mark()", t.x.mark(), i);
        }
        t.bad("a fourth", t.x.mark(), 7);
        t.good("back()", t.x.back(), 2);
        t.good("mark()", t.x.mark(), 3);
        for (int i = 2; i >= 0; i--) {
            t.good("back()", t.x.back(), i);
        }
        t.bad("back()", t.x.back(), 8);
    }

    private static void takenBack() {
        Due t = Due.farm("promise 56");
        t.x.mark();
        t.x.take(0);
        t.x.hour();
        t.x.hour();
        t.x.mark();
        t.x.last(2);
        t.x.lean(0, 9);
        t.x.net(0);
        t.x.gap(2);
        t.x.move(0, 2);
        t.x.send(0, 2);
        t.x.week(3);
        t.x.cap(0);
        t.x.rest();
        t.x.back();
        t.good("at hand", t.x.many(8), 0);
        t.good("caught", t.x.many(9), 7);
        t.good("off", t.x.many(10), 10);
        t.good("runs", t.x.many(11), 1);
        t.good("layer", t.x.layer(0, 0), 13);
        t.good("hay", t.x.rick(1, 2), 16);
        t.good("weight", t.x.side(0, 0), 3);
        t.good("nets", t.x.side(0, 1) + 4 * t.x.side(2, 1), 4);
        t.good("places", t.x.dog(0, 0) + t.x.boy(0, 0), 0);
        t.good("caps", t.x.rick(0, 3), 0);
        t.good("nip has 7 left to catch", t.x.whole(0, 4, 0), 13);
        t.good("pence", t.x.cap(0), 100);
        t.x.back();
        t.bad("none at hand", t.x.many(8), 8);
        t.good("rats", t.x.rick(0, 2) + t.x.rick(1, 2), 42);
        t.good("off at the ditch", t.x.side(1, 3), 0);
        t.good("pence", t.x.cap(0), 100);
    }

    private static void namesAndDays() {
        Due t = Due.farm("promise 56");
        t.takeDays("take oat;hour;", 2);
        t.x.mark();
        t.takeYard("rick a holds 0 layers 7;penny 9;", 1);
        t.refuseDays("take oat;", 3, 5);
        t.takeDays("take a;", 1);
        t.x.back();
        t.good("ricks", t.x.many(0), 3);
        t.good("penny", t.x.many(4), 2);
        t.good("the days ahead", t.x.live(0), 2);
        t.refuseDays("take a;", 3, 5);
        t.takeDays("take rye;", 1);
        t.x.mark();
        t.x.yard(0);
        t.x.mark();
        t.takeYard("rick a holds 0 layers 7;", 1);
        t.x.back();
        t.bad("no days at that mark", t.x.live(0), 8);
        t.x.back();
        t.good("days at that mark", t.x.live(0), 1);
        t.good("at hand", t.x.many(8), 2);
    }

    private static void othersStay() {
        Due t = Due.farm("promise 56");
        t.takeDays("take rye;last 1;", 2);
        t.x.mark();
        t.x.tray(0, 0, 1);
        t.x.write(0, 0, 5);
        t.x.bestNets(0, 1);
        t.x.bestPlaces(0, 2);
        t.x.bestOrder(1);
        t.x.live(0);
        t.x.share();
        t.is("feed()", t.x.feed(0x20202020, 0x20202020, 0x20202020, 0x20202020, 0x20202020), 20);
        t.x.back();
        t.good("a tray", t.x.read(0, 0), 5);
        t.good("netSet()", t.x.netSet(), 7);
        t.good("placeAt(1)", t.x.placeAt(1), 1);
        t.good("orderAt(2)", t.x.orderAt(2) >= 0 ? 1 : 0, 1);
        t.good("lived(1)", t.x.lived(1), 1);
        t.is("the fraction", t.x.bottom(), 1);
        t.is("the tape", t.x.feed(0, 0, 0, 0, 0), 40);
    }
}
