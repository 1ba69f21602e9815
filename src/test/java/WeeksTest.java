/** Promises 46 to 51: WEEKS to come, CAPS, told RUNS. */
public final class WeeksTest {
    public static void main(String[] args) {
        later();
        backTo();
        eaten();
        capsPay();
        cap();
        tells();
        tellsRefused();
        Due.end();
    }

    private static void later() {
        Due t = Due.farm("promise 46");
        int[] hay = {12, 17, 25, 37};
        for (int w = 0; w < 4; w++) {
            t.good("later(1, " + w + ")", t.x.later(1, w), hay[w]);
        }
        t.good("later(1, 999)", t.x.later(1, 999), 2 * 9999);
        t.good("one with caps", t.x.later(2, 999), 7);
        t.bad("later(3, 0)", t.x.later(3, 1000), 2);
        t.bad("later(0, 1000)", t.x.later(0, 1000), 5);
        t.bad("later(0, -1)", t.x.later(0, -1), 5);
        t.x.take(1);
        t.good("one at hand stays so", t.x.later(1, 9), 12);
        t.good("rats stay", t.x.rick(0, 2), 30);
        t.x.take(2);
        t.x.last(1);
        t.good("one without layers", t.x.later(2, 9), 0);
    }

    private static void backTo() {
        Due t = Due.farm("promise 47");
        int[][] due = {{0, 0}, {12, 0}, {13, 1}, {17, 1}, {18, 2}, {25, 2}, {26, 3}, {37, 3}};
        for (int[] d : due) {
            t.good("backTo(1, " + d[0] + ")", t.x.backTo(1, d[0]), d[1]);
        }
        t.bad("not in 999", t.x.backTo(2, 8), 8);
        t.good("backTo(2, 7)", t.x.backTo(2, 7), 0);
        t.bad("backTo(3, 0)", t.x.backTo(3, 0), 2);
        t.bad("backTo(0, 10000)", t.x.backTo(0, 10000), 5);
        t.bad("backTo(0, -1)", t.x.backTo(0, -1), 5);
        t.x.take(1);
        t.bad("one at hand", t.x.backTo(1, 13), 8);
        t.takeYard("rick a holds 0 layers 99;breed 1;", 1);
        t.bad("99 rats: none come", t.x.backTo(0, 100), 8);
        t.takeYard("rick a holds 0 layers 99 99;breed 2;", 1);
        t.good("one more in each", t.x.backTo(0, 200), 1);
        t.takeYard("rick a holds 0 layers 99;breed 2;", 1);
        t.good("one more, then two", t.x.later(0, 3), 104);
    }

    private static void eaten() {
        Due t = Due.farm("promise 48");
        t.good("eaten(1, 0)", t.x.eaten(1, 0), 0);
        t.good("eaten(1, 1)", t.x.eaten(1, 1), 36);
        t.good("eaten(1, 2)", t.x.eaten(1, 2), 36 + 51);
        t.good("eaten(1, 3)", t.x.eaten(1, 3), 36 + 51 + 75);
        t.good("one with caps", t.x.eaten(2, 999), 7 * 3 * 999);
        t.bad("eaten(3, 0)", t.x.eaten(3, 0), 2);
        t.bad("eaten(0, 1000)", t.x.eaten(0, 1000), 5);
        t.bad("eaten(0, -1)", t.x.eaten(0, -1), 5);
        t.good("eaten(0, 1)", t.x.eaten(0, 1), 90);
        t.x.take(1);
        t.good("one at hand", t.x.eaten(1, 999), 12 * 3 * 999);
        t.takeYard("rick a holds 0 layers 99 99 99 99 99 99 99 99;breed 100;corn 9;", 1);
        t.x.week(9);
        t.good("very much", t.x.eaten(0, 999), 9L * 8 * 9999 * 999);
    }

    private static void capsPay() {
        Due t = Due.farm("promise 49");
        t.good("capsPay(0): 90 and then 135", t.x.capsPay(0), 2);
        t.good("capsPay(1): 36, 51, 75", t.x.capsPay(1), 3);
        t.bad("it has caps", t.x.capsPay(2), 9);
        t.bad("capsPay(3)", t.x.capsPay(3), 2);
        t.takeYard("rick a holds 0 layers 1;cost 999;", 1);
        t.good("999 weeks", t.x.capsPay(0), 999);
        t.takeYard("rick a holds 0 layers 0;cost 1;", 1);
        t.bad("not in 999", t.x.capsPay(0), 8);
        t.takeYard("rick a holds 0 layers 0;", 1);
        t.good("they cost nothing", t.x.capsPay(0), 0);
        t.takeYard("rick a holds 0 layers 10;breed 100;cost 70;", 1);
        t.good("10, 20, 40", t.x.capsPay(0), 3);
        t.x.take(0);
        t.good("one at hand: 10 each", t.x.capsPay(0), 7);
        t.takeYard("rick a holds 0 layers 0 caps;cost 1;", 1);
        t.bad("8 is asked ahead of 9", t.x.capsPay(0), 8);
    }

    private static void cap() {
        Due t = Due.farm("promise 50");
        t.bad("cap(2)", t.x.cap(2), 9);
        t.bad("cap(3)", t.x.cap(3), 2);
        t.good("cap(1)", t.x.cap(1), 100);
        t.good("it has caps", t.x.rick(1, 3), 1);
        t.bad("cap(1) again", t.x.cap(1), 9);
        t.good("none come", t.x.later(1, 9), 12);
        t.good("in all", t.x.cap(0), 200);
        t.good("not from the pay", t.x.pay(), 0);
    }

    private static Due told(String about, int sort, long... runs) {
        Due t = Due.farm(about);
        t.x.tray(3, sort, runs.length);
        for (int i = 0; i < runs.length; i++) {
            t.x.write(3, i, runs[i]);
        }
        return t;
    }

    private static void tells() {
        Due exact = told("promise 51", 1, 0, 20);
        int[] two = {10, 10, 1};
        int[] one = {10, 99, 90};
        for (int what = 0; what < 3; what++) {
            exact.good("two runs", exact.x.tells(0, 3, 2, what), two[what]);
            exact.good("one run", exact.x.tells(0, 3, 1, what), one[what]);
        }
        Due all = told("promise 51", 0, 10, 20);
        all.good("holds 0", all.x.tells(0, 3, 2, 1), 0);
        Due none = told("promise 51", 3, 3, 3);
        none.bad("none", none.x.tells(0, 3, 2, 0), 8);
        none.good("3 of 12", none.x.tells(1, 3, 1, 0), 9);
        Due nets = told("promise 51", 1, 20);
        nets.x.net(0);
        nets.x.net(1);
        nets.x.take(0);
        nets.x.hour();
        nets.good("a rick as it is now, nets not minded", nets.x.tells(0, 3, 1, 0), 10);
    }

    private static void tellsRefused() {
        Due t = told("promise 51", 3, 0, 10000, -1);
        t.bad("tray 4", t.x.tells(9, 4, 9, 9), 1);
        t.bad("rick 9", t.x.tells(9, 0, 9, 9), 2);
        t.bad("missing", t.x.tells(0, 0, 9, 9), 3);
        t.bad("too few", t.x.tells(0, 3, 4, 9), 4);
        t.bad("n 3 of 3 layers", t.x.tells(0, 3, 3, 0), 5);
        t.bad("n 0", t.x.tells(0, 3, 0, 0), 5);
        t.bad("n -1", t.x.tells(0, 3, -1, 0), 5);
        t.bad("what 3", t.x.tells(0, 3, 1, 3), 5);
        t.bad("what -1", t.x.tells(0, 3, 1, -1), 5);
        t.bad("a run of 10,000", t.x.tells(0, 3, 2, 0), 5);
        t.x.write(3, 1, -1);
        t.bad("a run of -1", t.x.tells(0, 3, 2, 0), 5);
        t.good("the first alone", t.x.tells(0, 3, 1, 0), 10);
        t.x.write(3, 0, 10000);
        t.bad("a first run of 10,000", t.x.tells(0, 3, 1, 0), 5);
        t.x.write(3, 0, 0);
        t.x.write(3, 1, 9999);
        t.bad("9,999: none", t.x.tells(0, 3, 2, 0), 8);
        t.bad("one layer", t.x.tells(2, 3, 1, 0), 5);
        t.x.take(2);
        t.x.last(1);
        t.bad("no layers", t.x.tells(2, 3, 1, 0), 5);
    }
}
