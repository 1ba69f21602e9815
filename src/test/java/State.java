/** All that is told of an object by calls that leave it as it is (but for its STATUS); not the FAULT. */
final class State {
    private State() {
    }

    static String of(LastLayer x) {
        StringBuilder all = new StringBuilder();
        for (int what = 0; what < 12; what++) {
            all.append(x.many(what)).append(' ').append(x.lived(what)).append(' ');
        }
        for (int i = 0; i < 4; i++) {
            for (int what = 0; what < 4; what++) {
                all.append(x.rick(i, what)).append(' ').append(x.side(i, what)).append(' ').append(x.dog(i, what));
                all.append(' ').append(x.boy(i, what)).append(' ');
            }
            for (int k = 0; k < 8; k++) {
                all.append(x.layer(i, k)).append(' ');
            }
            for (int place = 0; place < 60; place++) {
                all.append(x.read(i, place)).append(x.status() == 0 ? " " : "? ");
            }
            all.append(x.placeAt(i)).append(' ').append(x.orderAt(i)).append(' ');
        }
        all.append(x.netted()).append(' ').append(x.pay()).append(' ').append(x.tired()).append(' ');
        all.append(x.netSet()).append(' ').append(x.top()).append(' ').append(x.bottom()).append(' ');
        all.append(marks(x));
        return all.toString();
    }

    /** A MARK is made and taken back at once: how many there were. */
    private static int marks(LastLayer x) {
        int marks = x.mark();
        return marks < 0 ? 3 : x.back();
    }
}
