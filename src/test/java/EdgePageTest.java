/** Promises 1 to 10 at their edges: each function breaks where the sentence above it is broken. */
public final class EdgePageTest {
    private static final Due D = new Due("EdgePageTest");

    public static void main(String[] args) {
        newObject();
        newObjectIsItsOwn();
        pageBounds();
        pageAnswersPieces();
        pageLeavesNothing();
        pageHearsAnew();
        pageLeavesNothingToUndo();
        pageTouchesNoMore();
        wordBounds();
        wordNumbers();
        wordFull();
        wordHasNoMark();
        wordEndsUndo();
        breathBounds();
        priceBounds();
        purseBounds();
        settingsTouchOneThing();
        putPlaces();
        putKinds();
        putAnswersWhatWasThere();
        putReadsAnew();
        putIsFree();
        putEndsUndo();
        typeBounds();
        typeFull();
        clearAnswersBytes();
        D.end();
    }

    private static long[] counts(SoldStops s) {
        long[] counts = new long[9];
        for (int what = 0; what < 9; what++) {
            counts[what] = s.count(what);
        }
        return counts;
    }

    /** "10 at first", "2 at first", "0 at first", "no PIECES", "THE FRACTION is 0 by 1 at first". */
    private static void newObject() {
        SoldStops s = new SoldStops();
        D.row("counts at first", counts(s), 0, 0, 10, 2, 0, 0, 0, 0, 0);
        D.row("the fraction at first", new long[] {s.part(0), s.part(1)}, 0, 1);
        D.row("status at first", new long[] {s.status(0), s.status(1), s.status(2)}, 0, 0, 0);
        D.row("nothing kept at first", new long[] {s.from(0), s.from(1), s.undo(), s.forget(), s.clear()}, -3, -3, -3, 0, 0);
    }

    /** What one object is told, another does not know. */
    private static void newObjectIsItsOwn() {
        SoldStops one = Due.full();
        SoldStops other = new SoldStops();
        D.row("counts of another one", counts(other), 0, 0, 10, 2, 0, 0, 0, 0, 0);
        D.row("images of another one", new long[] {other.from(0), other.from(1)}, -3, -3);
        other.page(30, 9);
        D.due("count(0) of the first one", one.count(0), 12);
    }

    /** "BREATH (1 .. 30)", "the PRICE (1 .. 9)": BAD. */
    private static void pageBounds() {
        SoldStops s = Due.page(7, 3, 1, 2);
        D.row("bad pages", new long[] {s.page(0, 3), s.page(31, 3), s.page(7, 0), s.page(7, 10), s.page(0, 0)},
            -2, -2, -2, -2, -2);
        D.row("nothing changed", counts(s), 2, 0, 7, 3, 0, 0, 0, 0, 0);
        s.page(1, 1);
        D.row("the least page", counts(s), 0, 0, 1, 1, 0, 0, 0, 0, 0);
        s.page(30, 9);
        D.row("the greatest page", counts(s), 0, 0, 30, 9, 0, 0, 0, 0, 0);
    }

    /** "how many PIECES there were": none, one, all 12. */
    private static void pageAnswersPieces() {
        SoldStops s = new SoldStops();
        D.due("page() of none", s.page(5, 5), 0);
        s.word(1);
        D.due("page() of one", s.page(5, 5), 1);
        D.due("page() of a full page", Due.full().page(5, 5), 12);
    }

    /** "no PIECES, the PURSE, the WEEK 0". */
    private static void pageLeavesNothing() {
        SoldStops s = Due.full();
        s.page(5, 5);
        D.row("counts", counts(s), 0, 0, 5, 5, 0, 0, 0, 0, 150);
        D.row("no piece is there", new long[] {s.of(0, 0), s.of(11, 0), s.put(0, 0), s.buy(0, 0), s.sell(0)},
            -10, -10, -10, -2, -2);
        D.due("there is room", s.word(9), 0);
    }

    /** "HEARD none". */
    private static void pageHearsAnew() {
        SoldStops s = Due.full();
        s.page(5, 5);
        D.row("heard none", new long[] {s.breaths(), s.forget(), s.heard(-1)}, 0x7FFFFFFE, 0, 1);
    }

    /** A page is new, and so has no MARK bought, sold, no text READ, no WEEK gone by. */
    private static void pageLeavesNothingToUndo() {
        SoldStops s = new SoldStops();
        s.week(4);
        s.page(5, 5);
        D.row("undo behind a page", new long[] {s.count(7), s.undo(), s.count(5)}, 0, -3, 0);
    }

    /** THE TEXT, THE FRACTION, IMAGES and STATUS are not the page's. */
    private static void pageTouchesNoMore() {
        SoldStops s = Due.page(5, 5, 9);
        s.put(0, 1);
        s.breath(9);
        s.odds(5);
        s.image(1);
        s.type('a');
        s.word(0);
        s.page(3, 3);
        D.row("the rest", new long[] {s.part(0), s.part(1), s.clear(), s.status(0), s.from(0), s.from(1), s.of(0, 1)},
            1, 1, 1, 1, -3, 1, 1);
        s.odds(10);
        s.breath(8);
        s.odds(10);
        s.page(3, 3);
        D.row("the fraction", new long[] {s.part(0), s.part(1)}, 0, 1);
    }

    /** "a LENGTH (1 .. 9)": BAD. */
    private static void wordBounds() {
        SoldStops s = new SoldStops();
        D.row("words", new long[] {s.word(0), s.word(10), s.count(0), s.word(1), s.word(9)}, -2, -2, 0, 0, 1);
        D.row("lengths", new long[] {s.of(0, 0), s.of(1, 0)}, 1, 9);
    }

    /** "PIECES 0 .. 11, as they come": "its number". */
    private static void wordNumbers() {
        SoldStops s = new SoldStops();
        for (int i = 0; i < 12; i++) {
            D.due("word number " + i, s.word(9 - i % 9), i);
        }
        for (int i = 0; i < 12; i++) {
            D.due("length of " + i, s.of(i, 0), 9 - i % 9);
        }
    }

    /** "BAD; FULL: 12": a 13th piece, and a bad one that is BAD ahead of FULL. */
    private static void wordFull() {
        SoldStops s = Due.full();
        D.row("a 13th piece", new long[] {s.word(1), s.word(9), s.word(0), s.word(10), s.count(0)}, -4, -4, -2, -2, 12);
        D.row("status", new long[] {s.status(0), s.status(1), s.status(2)}, 2, 0, 2);
    }

    /** "(no MARK behind it)", READ 0 times: where one stood in a page before, too. */
    private static void wordHasNoMark() {
        SoldStops s = Due.page(9, 1, 1);
        s.put(0, 1);
        s.readOut();
        s.page(9, 1);
        s.word(1);
        D.row("a piece that comes", new long[] {s.of(0, 1), s.of(0, 2), s.of(0, 3), s.count(1)}, -1, 0, 0, 0);
    }

    /** "behind a PIECE that comes .. none may be": and one refused comes not. */
    private static void wordEndsUndo() {
        SoldStops s = new SoldStops();
        s.week(1);
        s.word(0);
        D.due("behind a refused piece", s.count(7), 1);
        s.word(1);
        D.row("behind a piece", new long[] {s.count(7), s.undo(), s.count(5)}, 0, -3, 1);
        SoldStops full = Due.full();
        full.word(1);
        D.due("behind a 13th piece", full.count(7), 8);
    }

    /** "BREATH (1 .. 30)": "what it was. BAD." */
    private static void breathBounds() {
        SoldStops s = new SoldStops();
        D.row("breath", new long[] {s.breath(0), s.breath(31), s.breath(1), s.breath(30), s.breath(30)},
            -2, -2, 10, 1, 30);
    }

    /** "the PRICE (1 .. 9)": "what it was. BAD." */
    private static void priceBounds() {
        SoldStops s = new SoldStops();
        D.row("price", new long[] {s.price(0), s.price(10), s.price(1), s.price(9), s.price(9)}, -2, -2, 2, 1, 9);
    }

    /** "the PURSE (0 .. 999)": "what it was. BAD." */
    private static void purseBounds() {
        SoldStops s = new SoldStops();
        D.row("purse", new long[] {s.purse(-1), s.purse(1000), s.purse(999), s.purse(0), s.purse(0)},
            -2, -2, 0, 999, 0);
    }

    /** BREATH, the PRICE, the PURSE: each alone; none may be undone by it, none more. */
    private static void settingsTouchOneThing() {
        SoldStops s = Due.page(5, 5, 4);
        s.week(2);
        s.breath(6);
        D.row("breath alone", counts(s), 1, 0, 6, 5, 0, 2, 0, 1, 0);
        s.price(7);
        D.row("price alone", counts(s), 1, 0, 6, 7, 0, 2, 0, 1, 0);
        s.purse(8);
        D.row("purse alone", counts(s), 1, 0, 6, 7, 8, 2, 0, 1, 0);
        D.row("undone: the purse as ahead of the week", new long[] {s.undo(), s.count(2), s.count(3), s.count(4)},
            0, 6, 7, 0);
    }

    /** "PIECES 0 .. 11": a piece that is not there is BAD: -10. */
    private static void putPlaces() {
        SoldStops s = new SoldStops();
        D.row("put on none", new long[] {s.put(0, 0), s.put(-1, 0)}, -10, -10);
        s.word(1);
        D.row("put on one", new long[] {s.put(1, 0), s.put(-1, 0), s.put(0, 0), s.put(11, 0)}, -10, -10, -1, -10);
        SoldStops full = Due.full();
        D.row("put on 12", new long[] {full.put(12, 0), full.put(11, 0), full.of(11, 1)}, -10, 1, 0);
    }

    /** "0 COMMA .. 5 COLON": another kind is BAD: -10. */
    private static void putKinds() {
        SoldStops s = Due.page(9, 1, 1);
        D.row("kinds", new long[] {s.put(0, -1), s.put(0, 6), s.of(0, 1), s.put(0, 0), s.of(0, 1), s.put(0, 5), s.of(0, 1)},
            -10, -10, -1, -1, 0, 0, 5);
        D.row("bad ones", new long[] {s.status(0), s.status(1), s.status(2)}, 2, 0, 0);
    }

    /** "the KIND that was there (NONE)". */
    private static void putAnswersWhatWasThere() {
        for (int kind = 0; kind < 6; kind++) {
            SoldStops s = Due.page(9, 1, 1);
            D.row("put over kind " + kind, new long[] {s.put(0, kind), s.put(0, 0), s.count(1)}, -1, kind, 1);
        }
    }

    /** "(READ 0 times; one that was there is gone)": of the same kind, too. */
    private static void putReadsAnew() {
        for (int kind = 0; kind < 6; kind++) {
            SoldStops s = Due.page(9, 1, 1);
            s.put(0, kind);
            s.readOut();
            s.readOut();
            D.row("read twice", new long[] {s.of(0, 2), s.put(0, kind), s.of(0, 2)}, 2, kind, 0);
        }
    }

    /** "free": with an empty purse, and a full one. */
    private static void putIsFree() {
        SoldStops s = Due.page(9, 9, 1);
        s.put(0, 3);
        D.row("an empty purse", new long[] {s.count(4), s.of(0, 1)}, 0, 3);
        s.purse(999);
        s.put(0, 1);
        D.due("a full purse", s.count(4), 999);
    }

    /** "behind .. a MARK that is put, none may be": and one refused is not put. */
    private static void putEndsUndo() {
        SoldStops s = Due.page(9, 1, 1);
        s.week(1);
        s.put(1, 0);
        s.put(0, 6);
        D.due("behind refused ones", s.count(7), 1);
        s.put(0, 0);
        D.row("behind one", new long[] {s.count(7), s.undo(), s.of(0, 1), s.count(5)}, 0, -3, 0, 1);
    }

    /** "A byte (0 .. 127)": BAD. */
    private static void typeBounds() {
        SoldStops s = new SoldStops();
        D.row("bytes", new long[] {s.type(-1), s.type(128), s.type(256 + 'a'), s.count(8), s.type(0), s.type(127)},
            -2, -2, -2, 0, 1, 2);
    }

    /** "BAD; FULL: 150": a 151st byte, and a bad one that is BAD ahead of FULL. */
    private static void typeFull() {
        SoldStops s = new SoldStops();
        for (int i = 1; i <= 150; i++) {
            D.due("byte " + i, s.type(32), i);
        }
        D.row("a 151st byte", new long[] {s.type(32), s.type(-1), s.type(128), s.count(8)}, -4, -2, -2, 150);
        D.row("status", new long[] {s.status(0), s.status(1), s.status(2)}, 2, 0, 1);
        D.due("the bytes stay", s.read(), -160);
    }

    /** "THE TEXT is empty: how many it had": none, all 150; there is room again. */
    private static void clearAnswersBytes() {
        SoldStops s = Due.full();
        D.row("clear", new long[] {s.clear(), s.count(8), s.clear(), s.read(), s.type(127)}, 150, 0, 0, -10, 1);
    }
}
