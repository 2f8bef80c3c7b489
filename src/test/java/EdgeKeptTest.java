import java.math.BigInteger;

/** Promises 31 to 36 at their edges: each function breaks where the sentence above it is broken. */
public final class EdgeKeptTest {
    private static final Due D = new Due("EdgeKeptTest");

    public static void main(String[] args) {
        partBounds();
        partAtFirst();
        imageBounds();
        fromNone();
        fromBadAheadOfNone();
        imageOfANewOne();
        imageOfAFullOne();
        imagesApart();
        imageAgain();
        imageIsNotThePage();
        imageKeepsUndo();
        imageKeepsNoMore();
        imageKeepsHeard();
        imageOutlivesAPage();
        statusWhat();
        statusByReason();
        statusOfFives();
        countWhat();
        countFull();
        digestOfANewOne();
        digestOfAFullOne();
        digestOfEachValue();
        D.end();
    }

    /** "above (0), below (1). BAD". */
    private static void partBounds() {
        SoldStops s = new SoldStops();
        D.row("part", new long[] {s.part(-1), s.part(2), s.part(0), s.part(1), s.status(0)}, -2, -2, 0, 1, 2);
    }

    /** "THE FRACTION is 0 by 1 at first". */
    private static void partAtFirst() {
        SoldStops s = Due.full();
        D.row("not told yet", new long[] {s.part(0), s.part(1)}, 0, 1);
    }

    /** "IMAGES 0, 1": BAD. */
    private static void imageBounds() {
        SoldStops s = new SoldStops();
        D.row("image", new long[] {s.image(-1), s.image(2), s.from(0), s.from(1), s.image(0), s.image(1), s.status(0)},
            -2, -2, -3, -3, 1, 1, 2);
    }

    /** "NO: none was kept": one alone was. */
    private static void fromNone() {
        SoldStops s = new SoldStops();
        s.image(1);
        D.row("from", new long[] {s.from(0), s.from(1), s.status(1)}, -3, 1, 1);
        s = new SoldStops();
        s.image(0);
        D.row("from, the other", new long[] {s.from(0), s.from(1), s.status(1)}, 1, -3, 1);
    }

    /** BAD ahead of NO. */
    private static void fromBadAheadOfNone() {
        SoldStops s = new SoldStops();
        D.row("from", new long[] {s.from(-1), s.from(2), s.status(0), s.status(1)}, -2, -2, 2, 0);
    }

    /** An IMAGE of no PIECES is one. */
    private static void imageOfANewOne() {
        SoldStops s = new SoldStops();
        long before = s.digest();
        s.image(0);
        s.page(30, 9);
        s.word(1);
        s.put(0, 1);
        s.purse(9);
        s.week(9);
        s.heard(0);
        D.row("from a new one", new long[] {s.from(0), s.digest(), s.word(2), s.of(0, 1), s.of(0, 2)}, 1, before, 0, -1, 0);
    }

    /** "IMAGES 0, 1 keep all": 12 PIECES, 6 HEARD, 8 that may be undone. */
    private static void imageOfAFullOne() {
        SoldStops s = Due.full();
        s.readOut();
        s.image(0);
        long before = s.digest();
        s.page(1, 1);
        s.word(9);
        s.week(1);
        s.put(0, 5);
        s.heard(0);
        D.row("from a full one", new long[] {s.from(0), s.digest(), s.count(0), s.count(6), s.count(7)}, 1, before, 12, 6, 8);
        for (int i = 0; i < 12; i++) {
            D.row("mark " + i, new long[] {s.of(i, 1), s.of(i, 2)}, 1, 1);
        }
        s.undo();
        D.row("a reading undone", new long[] {s.of(0, 2), s.of(11, 2), s.count(5)}, 0, 0, 9);
        for (int week = 8; week >= 2; week--) {
            s.undo();
            D.due("a week undone", s.count(5), week);
        }
        D.due("no more", s.undo(), -3);
    }

    /** Each IMAGE keeps its own. */
    private static void imagesApart() {
        SoldStops s = new SoldStops();
        s.breath(1);
        s.image(0);
        s.breath(2);
        s.image(1);
        s.breath(3);
        D.row("apart", new long[] {s.from(0), s.count(2), s.from(1), s.count(2), s.from(0), s.count(2)}, 1, 1, 1, 2, 1, 1);
    }

    /** One kept again is the later one. */
    private static void imageAgain() {
        SoldStops s = Due.page(9, 1, 1);
        s.image(0);
        s.word(2);
        s.image(0);
        s.page(9, 1);
        D.row("again", new long[] {s.from(0), s.count(0), s.of(1, 0)}, 1, 2, 2);
    }

    /** What goes on from an IMAGE does not change it. */
    private static void imageIsNotThePage() {
        SoldStops s = Due.page(9, 1, 1);
        s.week(1);
        s.image(0);
        long before = s.digest();
        for (int time = 0; time < 3; time++) {
            s.breath(5);
            s.price(5);
            s.purse(5);
            s.undo();
            s.put(0, 3);
            s.word(5);
            s.heard(0);
            s.readOut();
            D.row("from, time " + time, new long[] {s.from(0), s.digest(), s.of(0, 1)}, 1, before, -1);
        }
    }

    /** "what may be undone they keep": though a piece that came, a mark put, a page ended it here. */
    private static void imageKeepsUndo() {
        SoldStops s = Due.page(9, 1, 1);
        s.purse(9);
        s.buy(0, 1);
        s.image(0);
        s.put(0, 1);
        D.row("behind a mark put", new long[] {s.undo(), s.from(0), s.undo(), s.of(0, 1)}, -3, 1, 9, -1);
        s.from(0);
        s.word(1);
        D.row("behind a piece", new long[] {s.undo(), s.from(0), s.undo(), s.of(0, 1)}, -3, 1, 9, -1);
        s.from(0);
        s.page(9, 1);
        D.row("behind a page", new long[] {s.undo(), s.from(0), s.undo(), s.of(0, 1)}, -3, 1, 9, -1);
        s.image(1);
        s.week(1);
        s.from(1);
        D.row("none was kept with it", new long[] {s.count(7), s.undo()}, 0, -3);
    }

    /** "all but them, THE TEXT, THE FRACTION and STATUS". */
    private static void imageKeepsNoMore() {
        SoldStops s = Due.page(9, 1, 9);
        s.image(0);
        s.image(1);
        s.type('a');
        s.odds(3);
        s.word(0);
        s.sell(0);
        D.row("all but", new long[] {s.from(0), s.count(8), s.part(0), s.part(1), s.status(0), s.status(1), s.clear()},
            1, 1, 1, 1, 1, 1, 1);
        s.breath(8);
        s.odds(3);
        s.breath(7);
        s.image(0);
        D.row("but them", new long[] {s.from(1), s.count(2), s.part(0), s.from(0), s.count(2), s.part(0), s.read()},
            1, 9, 0, 1, 7, 0, -10);
    }

    /** HEARD, and the BREATHS of each. */
    private static void imageKeepsHeard() {
        SoldStops s = Due.page(9, 1, 9);
        s.heard(0);
        s.image(0);
        s.heard(-1);
        D.row("by both", new long[] {s.breaths(), s.from(0), s.breaths(), s.count(6)}, 0, 1, 0x1FE, 1);
        s.forget();
        s.heard(-1);
        D.row("as it was heard", new long[] {s.breaths(), s.from(0), s.breaths()}, 0x7FFFFE00, 1, 0x1FE);
    }

    /** A page, a text that is read leave the IMAGES. */
    private static void imageOutlivesAPage() {
        SoldStops s = Due.page(9, 1, 9);
        s.image(0);
        s.image(1);
        s.page(1, 1);
        Due.read(s, "page 2 2;");
        D.row("from", new long[] {s.count(2), s.from(0), s.count(0), s.from(1), s.count(0)}, 2, 1, 1, 1, 1);
    }

    /** "-1: another what (counts as BAD)". */
    private static void statusWhat() {
        SoldStops s = new SoldStops();
        D.row("another", new long[] {s.status(-1), s.status(0), s.status(3), s.status(0), s.status(1), s.status(2)},
            -1, 1, -1, 2, 0, 0);
    }

    /** "(each answer told so below is such a one": by -2, by -10, by -1, by -20 alike. */
    private static void statusByReason() {
        SoldStops s = Due.page(9, 1, 1, 1, 1, 1, 1, 1, 1, 1);
        s.page(0, 0);
        s.put(9, 9);
        s.of(9, 9);
        s.cheapest(0, 0, 0);
        s.order(-2);
        s.bid(9, 9, 9, 9, 9, 9);
        s.status(9);
        D.row("bad", new long[] {s.status(0), s.status(1), s.status(2)}, 7, 0, 0);
        s.order(0);
        s.buy(0, 0);
        s.sell(0);
        s.undo();
        s.from(0);
        D.row("no", new long[] {s.status(0), s.status(1), s.status(2)}, 7, 5, 0);
        SoldStops full = Due.full();
        full.word(1);
        full.type(1);
        full.heard(-1);
        D.row("full", new long[] {full.status(0), full.status(1), full.status(2)}, 0, 0, 3);
    }

    /** -5, a fault, an item refused are told as none of BAD, NO, FULL. */
    private static void statusOfFives() {
        SoldStops s = new SoldStops();
        D.row("answers", new long[] {s.cheapest(1, 0, 0), s.order(0), s.read(), Due.read(s, "page 0 0;")}, -5, -5, -10, -1000);
        D.row("status", new long[] {s.status(0), s.status(1), s.status(2)}, 0, 0, 0);
    }

    /** "0 PIECES .. 8 bytes of THE TEXT. BAD". */
    private static void countWhat() {
        SoldStops s = new SoldStops();
        D.row("count", new long[] {s.count(-1), s.count(9), s.count(0), s.count(8), s.status(0)}, -2, -2, 0, 0, 2);
    }

    /** As many as there may be. */
    private static void countFull() {
        SoldStops s = Due.full();
        s.price(9);
        long[] counts = new long[9];
        for (int what = 0; what < 9; what++) {
            counts[what] = s.count(what);
        }
        D.row("count of a full one", counts, 12, 12, 30, 9, 999, 9, 6, 8, 150);
    }

    private static long told(long... values) {
        BigInteger h = BigInteger.valueOf(1063);
        for (long v : values) {
            h = h.multiply(BigInteger.valueOf(31)).add(BigInteger.valueOf(v));
        }
        return h.longValue();
    }

    /** No PIECES, no HEARD: count() and THE FRACTION alone. */
    private static void digestOfANewOne() {
        D.due("digest()", new SoldStops().digest(), told(0, 0, 10, 2, 0, 0, 0, 0, 0, 0, 1));
    }

    /** The long wraps around, again and again. */
    private static void digestOfAFullOne() {
        SoldStops s = Due.full();
        s.readOut();
        s.odds(5);
        long nine = 0x7FFFFE00;
        D.due("digest()", s.digest(), told(12, 12, 30, 2, 999, 9, 6, 8, 150, 1, 1, 1, 2, 1, 1, 3, 1, 1, 4, 1, 1, 5, 1, 1,
            6, 1, 1, 7, 1, 1, 8, 1, 1, 9, 1, 1, 1, 1, 1, 2, 1, 1, 3, 1, 1, nine, nine, nine, nine, nine, nine,
            s.part(0), s.part(1)));
    }

    /** "the KIND behind it (NONE: -1), how often READ (0: none there)", "of HEARD the BREATHS", "THE FRACTION". */
    private static void digestOfEachValue() {
        SoldStops s = Due.page(9, 3, 9, 1, 9);
        s.put(0, 1);
        s.put(1, 5);
        s.readOut();
        s.heard(2);
        s.heard(0);
        s.odds(10);
        D.due("digest()", s.digest(), told(3, 2, 9, 3, 0, 0, 2, 1, 0, 9, 1, 1, 1, 5, 1, 9, -1, 0, 0, 0x1FE, 0, 1));
        s.sell(0);
        s.breath(18);
        s.forget();
        s.put(1, 0);
        s.odds(4);
        s.type('z');
        D.due("digest() again", s.digest(), told(3, 1, 18, 3, 4, 0, 0, 0, 1, 9, -1, 0, 1, 0, 0, 9, -1, 0, 3, 5));
    }
}
