/** Promises 1 to 8: a new object, STATUS, the FRACTION, TRAYS. */
public final class TraysTest {
    public static void main(String[] args) {
        newObject();
        status();
        fraction();
        makeTrays();
        writeAndRead();
        pour();
        pourRefused();
        Due.end();
    }

    private static void newObject() {
        Due t = new Due("promise 1");
        t.is("status()", t.x.status(), 0);
        t.fraction(0, 1);
        t.is("fault(0)", t.x.fault(0), -1);
        t.is("fault(1)", t.x.fault(1), -1);
        int[] sums = {0, 0, 0, 0, 1, 1, 0, 0};
        for (int what = 0; what < 8; what++) {
            t.good("many(" + what + ")", t.x.many(what), sums[what]);
        }
        t.bad("many(8)", t.x.many(8), 8);
        for (int tray = 0; tray < 4; tray++) {
            t.bad("read of a missing tray", t.x.read(tray, 0), 3);
        }
        t.bad("live without days", t.x.live(0), 8);
        t.bad("back without marks", t.x.back(), 8);
        t.bad("yard(1) of an empty tape", t.x.yard(1), 5);
        t.good("yard(0)", t.x.yard(0), 0);
        t.is("NONE", LastLayer.NONE, -1);
    }

    private static void status() {
        Due t = new Due("promise 2");
        t.x.rick(0, 0);
        t.is("status()", t.x.status(), 2);
        t.x.status();
        t.x.top();
        t.x.bottom();
        t.x.fault(0);
        t.x.feed(0, 0, 0, 0, 0);
        t.is("status() behind calls without one", t.x.status(), 2);
        t.good("netted()", t.x.netted(), 0);
    }

    private static void fraction() {
        Due t = Due.farm("promises 3 and 4");
        t.x.take(0);
        t.x.hour();
        t.x.hour();
        t.good("share()", t.x.share());
        t.fraction(7, 17);
        t.x.last(2);
        t.good("share()", t.x.share());
        t.fraction(2, 3);
        t.x.yard(0);
        t.bad("share()", t.x.share(), 8);
        t.fraction(2, 3);
    }

    private static void makeTrays() {
        Due t = new Due("promise 5");
        t.bad("tray -1", t.x.tray(-1, 0, 1), 1);
        t.bad("tray 4", t.x.tray(4, 0, 1), 1);
        t.bad("sort -1", t.x.tray(0, -1, 1), 1);
        t.bad("sort 4", t.x.tray(0, 4, 61), 1);
        t.bad("61 numbers", t.x.tray(0, 0, 61), 5);
        t.bad("-1 numbers", t.x.tray(0, 0, -1), 6);
        t.bad("read", t.x.read(0, 0), 3);
        t.good("60 numbers", t.x.tray(0, 3, 60));
        t.good("read", t.x.read(0, 59), 0);
        t.x.write(0, 59, 7);
        t.x.write(0, 0, 7);
        t.bad("61 numbers", t.x.tray(0, 3, 61), 5);
        t.good("read", t.x.read(0, 59), 7);
        t.good("60 numbers again", t.x.tray(0, 3, 60));
        t.good("read", t.x.read(0, 0), 0);
        t.good("read", t.x.read(0, 59), 0);
        t.good("no numbers", t.x.tray(0, 0, 0));
        t.bad("read", t.x.read(0, 0), 4);
    }

    private static void writeAndRead() {
        Due t = new Due("promises 6 and 7");
        long v = 0x8123456789abcdefL;
        long[] cut = {(byte) 0xef, (short) 0xcdef, 0x89abcdef, v};
        for (int sort = 0; sort < 4; sort++) {
            t.good("tray", t.x.tray(sort, sort, 2));
            t.good("write", t.x.write(sort, 1, v));
            t.good("read of sort " + sort, t.x.read(sort, 1), cut[sort]);
            t.good("read beside it", t.x.read(sort, 0), 0);
            t.good("write 127", t.x.write(sort, 0, 127));
            t.good("read", t.x.read(sort, 0), 127);
        }
        t.x.write(0, 0, 128);
        t.good("128 in 8 bits", t.x.read(0, 0), -128);
        t.x.write(1, 0, 40000);
        t.good("40000 in 16 bits", t.x.read(1, 0), 40000 - 65536);
        t.x.write(3, 0, -1);
        t.good("-1", t.x.read(3, 0), -1);
        t.bad("write to tray 4", t.x.write(4, 0, 1), 1);
        t.bad("write to place 2", t.x.write(0, 2, 1), 4);
        t.bad("write to place -1", t.x.write(0, -1, 1), 4);
        t.bad("read of tray -1", t.x.read(-1, 0), 1);
        t.bad("read of place 2", t.x.read(0, 2), 4);
        t.bad("read of place -1", t.x.read(0, -1), 4);
        Due m = new Due("promises 6 and 7");
        m.bad("write to a missing tray", m.x.write(0, 99, 1), 3);
    }

    private static Due row(String about) {
        Due t = new Due(about);
        t.x.tray(0, 1, 5);
        for (int i = 0; i < 5; i++) {
            t.x.write(0, i, 10 + i);
        }
        return t;
    }

    private static void isRow(Due t, int tray, long... want) {
        for (int i = 0; i < want.length; i++) {
            t.good("place " + i, t.x.read(tray, i), want[i]);
        }
    }

    private static void pour() {
        Due up = row("promise 8");
        up.good("pour up", up.x.pour(0, 0, 0, 1, 4));
        isRow(up, 0, 10, 10, 11, 12, 13);
        Due down = row("promise 8");
        down.good("pour down", down.x.pour(0, 1, 0, 0, 4));
        isRow(down, 0, 11, 12, 13, 14, 14);
        Due other = row("promise 8");
        other.x.tray(2, 1, 3);
        other.good("pour to another", other.x.pour(0, 2, 2, 1, 2));
        isRow(other, 2, 0, 12, 13);
        isRow(other, 0, 10, 11, 12, 13, 14);
        other.x.tray(1, 1, 5);
        other.good("pour all", other.x.pour(0, 0, 1, 0, 5));
        isRow(other, 1, 10, 11, 12, 13, 14);
        other.good("pour nothing", other.x.pour(0, 5, 2, 3, 0));
        isRow(other, 2, 0, 12, 13);
    }

    private static void pourRefused() {
        Due t = row("promise 8");
        t.x.tray(2, 1, 3);
        t.x.tray(3, 2, 3);
        t.bad("from tray 4", t.x.pour(4, 0, 0, 0, 1), 1);
        t.bad("to tray -1, from a missing one", t.x.pour(1, 0, -1, 0, 1), 1);
        t.bad("from a missing tray", t.x.pour(1, 0, 0, 0, -1), 3);
        t.bad("to a missing tray", t.x.pour(0, 0, 1, 0, -1), 3);
        t.bad("unlike sorts", t.x.pour(0, 9, 3, 9, -1), 11);
        t.bad("below 0", t.x.pour(0, -1, 2, -1, -1), 6);
        t.bad("place -1", t.x.pour(0, -1, 2, 0, 1), 4);
        t.bad("to place -1", t.x.pour(0, 0, 2, -1, 1), 4);
        t.bad("too few", t.x.pour(0, 4, 2, 0, 2), 4);
        t.bad("too little room", t.x.pour(0, 0, 2, 2, 2), 4);
        t.bad("very many", t.x.pour(0, 1, 2, 1, Integer.MAX_VALUE), 4);
        t.bad("place 6, nothing", t.x.pour(0, 6, 2, 0, 0), 4);
        isRow(t, 2, 0, 0, 0);
    }
}
