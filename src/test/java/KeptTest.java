/** Promises 31 to 36: what there is. */
public final class KeptTest {
    private static final Due D = new Due("KeptTest");

    public static void main(String[] args) {
        part();
        image();
        imageOfUndo();
        status();
        count();
        digest();
        D.end();
    }

    private static void part() {
        SoldStops s = new SoldStops();
        D.row("part", new long[] {s.part(0), s.part(1), s.part(-1), s.part(2), s.status(0)}, 0, 1, -2, -2, 2);
    }

    private static void image() {
        SoldStops s = Due.page(9, 3, 4, 5);
        s.put(0, 4);
        s.purse(11);
        s.readOut();
        s.week(3);
        s.heard(1);
        D.row("image, bad", new long[] {s.image(-1), s.image(2), s.from(-1), s.from(2)}, -2, -2, -2, -2);
        D.row("image", new long[] {s.from(0), s.image(0), s.from(1), s.image(1)}, -3, 1, -3, 1);
        long kept = s.digest();
        s.page(20, 9);
        s.word(7);
        s.put(0, 1);
        s.heard(0);
        s.heard(0);
        s.week(7);
        s.image(1);
        D.row("from(0)", new long[] {s.from(0), s.digest(), s.of(0, 2), s.breaths()}, 1, kept, 1, bits(4, 4));
        D.row("from(1)", new long[] {s.from(1), s.count(0), s.count(2), s.count(5), s.count(6)}, 1, 1, 20, 7, 2);
        D.row("status goes on", new long[] {s.status(0), s.status(1)}, 4, 2);
        s.type('a');
        s.odds(0);
        s.from(0);
        D.row("text and fraction go on", new long[] {s.count(8), s.part(0), s.part(1)}, 1, 1, 1);
        s.put(1, 5);
        s.word(1);
        s.price(1);
        s.from(0);
        s.odds(0);
        s.clear();
        D.row("an image is not what goes on from it", new long[] {s.count(0), s.of(1, 1), s.count(3)}, 2, -1, 3);
    }

    private static int bits(int from, int to) {
        return (1 << to + 1) - (1 << from);
    }

    private static void imageOfUndo() {
        SoldStops s = Due.page(10, 2, 5);
        s.purse(50);
        s.buy(0, 1);
        s.week(2);
        s.image(0);
        s.word(3);
        D.due("none may be undone", s.undo(), -3);
        s.from(0);
        D.row("undo from an image", new long[] {s.count(7), s.undo(), s.count(5), s.undo(), s.of(0, 1)}, 2, 44, 0, 50, -1);
        s.week(1);
        s.week(1);
        s.image(1);
        s.from(0);
        D.row("again", new long[] {s.undo(), s.undo(), s.undo()}, 44, 50, -3);
    }

    private static void status() {
        SoldStops s = new SoldStops();
        D.row("status, another", new long[] {s.status(3), s.status(-1), s.status(0), s.status(1), s.status(2)},
            -1, -1, 2, 0, 0);
        s.undo();
        for (int i = 0; i < 13; i++) {
            s.word(1);
        }
        D.row("status by reason", new long[] {s.status(0), s.status(1), s.status(2)}, 2, 1, 1);
        s.cheapest(1, 0, 99);
        s.read();
        D.row("-5 and faults are none", new long[] {s.status(0), s.status(1), s.status(2)}, 2, 1, 1);
    }

    private static void count() {
        SoldStops s = Due.page(11, 4, 1, 2, 3);
        s.put(1, 0);
        s.put(2, 1);
        s.purse(77);
        s.week(5);
        s.week(1);
        s.heard(-1);
        s.type('a');
        long[] got = new long[9];
        for (int what = 0; what < 9; what++) {
            got[what] = s.count(what);
        }
        D.row("count", got, 3, 2, 11, 4, 77, 6, 1, 2, 1);
        D.row("count, bad", new long[] {s.count(-1), s.count(9), s.status(0)}, -2, -2, 2);
    }

    private static long told(long... values) {
        long h = 1063;
        for (long v : values) {
            h = 31 * h + v;
        }
        return h;
    }

    private static void digest() {
        SoldStops s = new SoldStops();
        D.due("digest() of a new one", s.digest(), told(0, 0, 10, 2, 0, 0, 0, 0, 0, 0, 1));
        s = Due.page(9, 3, 4, 5);
        s.put(0, 4);
        s.purse(11);
        s.readOut();
        s.week(3);
        s.heard(1);
        s.heard(-1);
        s.odds(4);
        s.type('a');
        D.due("digest()", s.digest(),
            told(2, 1, 9, 3, 11, 3, 2, 2, 1, 4, 4, 1, 5, -1, 0, bits(4, 4), bits(5, 30), 1, 1));
        s.put(0, 1);
        s.breath(8);
        s.odds(4);
        D.due("digest() of a chance", s.digest(),
            told(2, 1, 8, 3, 11, 3, 2, 0, 1, 4, 1, 0, 5, -1, 0, bits(4, 4), bits(5, 30), 3, 5));
    }
}
