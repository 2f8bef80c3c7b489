/** Promises 19 to 23: what would be read. */
public final class ReadTest {
    private static final Due D = new Due("ReadTest");

    public static void main(String[] args) {
        stuck();
        sentences();
        cheapest();
        cheapestOfLikeOnes();
        cheapestBad();
        reach();
        order();
        orderRefused();
        changesNothing();
        fullPage();
        askedAgain();
        D.end();
    }

    private static long[] cheapestRow(SoldStops s, int b, int end) {
        long[] row = new long[s.count(0) + 1];
        for (int i = -1; i < s.count(0); i++) {
            row[i + 1] = s.cheapest(b, end, i);
        }
        return row;
    }

    private static long[] orderRow(SoldStops s) {
        long[] row = new long[s.count(0) + 1];
        for (int i = -1; i < s.count(0); i++) {
            row[i + 1] = s.order(i);
        }
        return row;
    }

    private static void stuck() {
        SoldStops s = Due.page(10, 2, 5, 5, 1);
        D.due("stuck()", s.stuck(), 2);
        s.put(0, 0);
        D.due("stuck() behind a comma", s.stuck(), -1);
        s.breath(9);
        D.due("stuck() with less", s.stuck(), -1);
        s.breath(4);
        D.due("stuck() at first", s.stuck(), 0);
        s.page(4, 2);
        D.due("stuck() of none", s.stuck(), -1);
    }

    private static long[] sentencesRow(SoldStops s) {
        return new long[] {s.sentences(0), s.sentences(1), s.sentences(2), s.sentences(3)};
    }

    private static void sentences() {
        SoldStops s = new SoldStops();
        D.row("sentences of none", sentencesRow(s), 0, 0, 0, -1);
        for (int i = 0; i < 7; i++) {
            s.word(1);
        }
        D.row("one sentence", sentencesRow(s), 1, 0, 7, 0);
        SoldStops one = Due.page(9, 2, 1);
        one.put(0, 1);
        D.row("a sentence of one", sentencesRow(one), 1, 1, 1, 0);
        s.put(0, 1);
        s.put(2, 2);
        s.put(4, 3);
        D.row("of like ones the first", sentencesRow(s), 4, 0, 2, 1);
        s.put(6, 0);
        D.row("a comma ends none", sentencesRow(s), 4, 0, 2, 1);
        s.put(6, 4);
        D.row("a dash ends none", sentencesRow(s), 4, 0, 2, 1);
        s.put(6, 5);
        D.row("a colon ends", sentencesRow(s), 4, 1, 2, 1);
        s.put(4, 0);
        D.row("the last is the longest", sentencesRow(s), 3, 1, 4, 2);
        D.row("sentences, bad", new long[] {s.sentences(-1), s.sentences(4), s.status(0)}, -2, -2, 2);
    }

    private static void cheapest() {
        SoldStops s = new SoldStops();
        D.row("cheapest of none", new long[] {s.cheapest(1, 0, -1), s.cheapest(1, 1, -1), s.cheapest(1, 0, 0)}, 0, 0, -5);
        s = Due.page(10, 2, 4, 5, 6, 3, 2);
        D.row("cheapest(10, 0)", cheapestRow(s, 10, 0), 6, -1, 4, 4, -1, -1);
        D.row("cheapest(10, 1)", cheapestRow(s, 10, 1), 12, -1, 4, 4, -1, 1);
        D.row("cheapest(5, 0)", cheapestRow(s, 5, 0), -5, -5, -5, -5, -5, -5);
        D.row("cheapest(30, 0)", cheapestRow(s, 30, 0), 0, -1, -1, -1, -1, -1);
        s.week(1);
        D.row("cheapest(30, 1) in an odd week", cheapestRow(s, 30, 1), 4, -1, -1, -1, -1, 2);
        s.put(4, 0);
        D.row("a comma stays at the end", cheapestRow(s, 30, 1), -5, -5, -5, -5, -5, -5);
        D.row("no end asked", cheapestRow(s, 30, 0), 0, -1, -1, -1, -1, -1);
        s.put(4, 3);
        D.row("a shout stands at the end", cheapestRow(s, 30, 1), 0, -1, -1, -1, -1, -1);
        s.put(1, 1);
        D.row("marks that are there are not bought", cheapestRow(s, 10, 0), 2, -1, -1, -1, 0, -1);
    }

    private static void cheapestOfLikeOnes() {
        SoldStops s = Due.page(10, 1, 4, 4, 4);
        D.row("first of like rows", cheapestRow(s, 10, 0), 1, -1, 0, -1);
        s = Due.page(12, 1, 9, 6, 3);
        D.row("one dash ahead of two commas", cheapestRow(s, 12, 0), 2, 4, -1, -1);
        s = Due.page(10, 3, 1);
        D.row("stop ahead of question", cheapestRow(s, 10, 1), 8, 5);
        s.price(2);
        D.row("a stop costs as a colon", cheapestRow(s, 10, 1), 6, 1);
        s.price(1);
        D.row("a question would cost as a stop", cheapestRow(s, 10, 1), 3, 1);
    }

    private static void cheapestBad() {
        SoldStops s = Due.page(10, 2, 4);
        D.row("cheapest, bad", new long[] {s.cheapest(0, 0, 0), s.cheapest(31, 0, 0), s.cheapest(1, -1, 0),
            s.cheapest(1, 2, 0), s.cheapest(1, 0, -2), s.status(0)}, -10, -10, -10, -10, -10, 5);
        D.row("not so many", new long[] {s.cheapest(4, 0, 1), s.cheapest(4, 0, Integer.MAX_VALUE), s.status(0)}, -5, -5, 5);
    }

    private static void reach() {
        SoldStops s = Due.page(10, 2, 4, 5, 6, 3, 2);
        D.row("reach", new long[] {s.reach(0), s.reach(2), s.reach(3), s.reach(4), s.reach(5), s.reach(6), s.reach(999)},
            2, 2, 3, 3, 4, 5, 5);
        s.purse(999);
        D.row("the purse does not count", new long[] {s.reach(0), s.reach(5)}, 2, 4);
        s.put(1, 1);
        D.row("with a stop", new long[] {s.reach(0), s.reach(1), s.reach(2)}, 4, 4, 5);
        s.breath(5);
        D.row("less breath", new long[] {s.reach(0), s.reach(999)}, 1, 2);
        s.breath(3);
        D.due("reach at first", s.reach(999), 0);
        D.row("reach, bad", new long[] {s.reach(-1), s.reach(1000), s.status(0)}, -2, -2, 2);
        s.page(3, 3);
        D.due("reach of none", s.reach(3), 0);
    }

    private static void order() {
        SoldStops s = new SoldStops();
        D.row("order of none", new long[] {s.order(-1), s.order(0)}, 0, -5);
        s = Due.page(10, 2, 4, 5, 6, 3, 2);
        D.row("order", orderRow(s), 3, 0, 3, 4, 1, 2);
        s.put(0, 4);
        D.row("marks stay at their places", orderRow(s), 4, 0, 1, 3, 4, 2);
        s = Due.page(9, 2, 9, 1, 8);
        s.put(1, 1);
        D.row("all", orderRow(s), 3, 1, 2, 0);
        s = Due.page(3, 2, 9, 9);
        D.row("none can be read", orderRow(s), 0, 0, 1);
        s = Due.page(30, 2, 9, 9, 9);
        D.row("as they are", orderRow(s), 3, 0, 1, 2);
    }

    private static void orderRefused() {
        SoldStops s = Due.page(10, 2, 1, 1, 1, 1, 1, 1, 1);
        D.row("order of 7", new long[] {s.order(-1), s.order(6), s.order(7), s.order(-2)}, 7, 6, -5, -10);
        s.word(1);
        D.row("order of 8", new long[] {s.order(-1), s.order(0), s.order(99), s.order(-2)}, -20, -20, -20, -10);
        D.row("status", new long[] {s.status(0), s.status(1), s.status(2)}, 2, 3, 0);
    }

    private static void changesNothing() {
        SoldStops s = Due.page(10, 2, 4, 5, 6, 3, 2);
        s.put(0, 2);
        s.put(3, 4);
        s.readOut();
        long before = s.digest();
        s.stuck();
        s.sentences(2);
        s.cheapest(12, 1, 2);
        s.reach(30);
        s.order(2);
        s.breaths();
        s.shorter();
        s.bid(0, 5, 5, 5, 5, 0);
        s.drawn(7, 7);
        s.of(0, 2);
        s.costs(0);
        s.gives(0, 0);
        D.due("digest() behind questions", s.digest(), before);
    }

    private static void fullPage() {
        SoldStops s = Due.page(30, 2, 9, 9, 9, 9, 9, 9, 9, 9, 9, 9, 9, 9);
        D.row("full: stuck, sentences", new long[] {s.stuck(), s.sentences(0), s.sentences(2), s.readOut()}, 3, 1, 12, 3);
        D.row("full: reach", new long[] {s.reach(0), s.reach(5), s.reach(6), s.reach(999)}, 3, 4, 6, 12);
        // 78 more than 30: a stop gives 27 for 6, a dash 6 for 3.
        D.row("full: cheapest", cheapestRow(s, 30, 0), 18, -1, -1, 1, -1, -1, 1, -1, -1, 1, -1, -1, -1);
        for (int i = 0; i < 12; i++) {
            s.put(i, 1);
        }
        D.row("full of stops", new long[] {s.stuck(), s.sentences(0), s.sentences(1), s.reach(0), s.readOut(),
            s.of(11, 2)}, -1, 12, 1, 12, 12, 1);
        D.row("full: nothing to buy", cheapestRow(s, 9, 1), 0, -1, -1, -1, -1, -1, -1, -1, -1, -1, -1, -1, -1);
        D.due("full: too long", s.cheapest(8, 0, -1), -5);
    }

    private static void askedAgain() {
        SoldStops s = Due.page(10, 2, 4, 5, 6, 3, 2);
        s.cheapest(10, 1, -1);
        s.reach(999);
        s.order(-1);
        s.page(10, 2);
        s.word(4);
        s.word(5);
        D.row("cheapest again", cheapestRow(s, 10, 0), 0, -1, -1);
        D.row("cheapest with an end again", cheapestRow(s, 10, 1), 6, -1, 1);
        D.row("too little breath", cheapestRow(s, 3, 0), -5, -5, -5);
        D.row("reach again", new long[] {s.reach(0), s.reach(999)}, 2, 2);
        s.breath(4);
        D.row("reach with less", new long[] {s.reach(0), s.reach(999)}, 1, 1);
        D.row("order with less", orderRow(s), 1, 0, 1);
        s.breath(5);
        D.row("order with a little more", orderRow(s), 1, 0, 1);
    }
}
