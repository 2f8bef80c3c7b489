/** Promises 19 to 23 at their edges: each function breaks where the sentence above it is broken. */
public final class EdgeReadTest {
    private static final Due D = new Due("EdgeReadTest");

    public static void main(String[] args) {
        stuckNone();
        stuckAtFirstAndLast();
        stuckAsLong();
        sentencesOfNone();
        sentencesOfOne();
        sentencesToTheEnd();
        sentencesKinds();
        sentencesOfAll();
        longestIsFirst();
        sentencesWhat();
        cheapestOfNone();
        cheapestBounds();
        cheapestBadAheadOfAll();
        cheapestNotSoMany();
        cheapestNoWay();
        cheapestFree();
        cheapestFromBreath();
        cheapestOthersStay();
        cheapestEnd();
        cheapestEndThere();
        cheapestFewest();
        cheapestNoneFirst();
        cheapestKindsFirst();
        cheapestColon();
        cheapestByTheWeek();
        cheapestOfTwelve();
        cheapestIsNotThePurse();
        reachBounds();
        reachOfNone();
        reachJustEnough();
        reachWithTheLastMark();
        reachOthersStay();
        reachAll();
        orderOfNone();
        orderBounds();
        orderOfSeven();
        orderOfEight();
        orderNotSoMany();
        orderNothingRead();
        orderFirstRow();
        orderMarksStay();
        orderBehindTheStuck();
        D.end();
    }

    private static long[] cheapestRow(SoldStops s, int b, int end) {
        long[] row = new long[s.count(0) + 1];
        for (int i = -1; i < s.count(0); i++) {
            row[i + 1] = s.cheapest(b, end, i);
        }
        return row;
    }

    private static long[] orderRow(SoldStops s) {
        long[] row = new long[s.count(0) + 1];
        for (int i = -1; i < s.count(0); i++) {
            row[i + 1] = s.order(i);
        }
        return row;
    }

    private static long[] sentencesRow(SoldStops s) {
        return new long[] {s.sentences(0), s.sentences(1), s.sentences(2), s.sentences(3)};
    }

    /** "STUCK .. none": NONE, of no PIECES, too. */
    private static void stuckNone() {
        D.due("no pieces", new SoldStops().stuck(), -1);
        D.due("no pieces, breath 1", Due.page(1, 1).stuck(), -1);
        D.due("all 12 are read", Due.full().stuck(), -1);
    }

    /** "the PIECE at which one would be STUCK". */
    private static void stuckAtFirstAndLast() {
        D.due("at the first", Due.page(1, 1, 2, 1).stuck(), 0);
        D.due("at the last", Due.page(30, 1, 9, 9, 9, 4).stuck(), 3);
        SoldStops s = Due.full();
        s.breath(8);
        D.due("at a longer one", s.stuck(), 8);
        s = Due.page(12, 1, 1, 1, 1, 1, 1, 1, 1, 1, 1, 1, 1, 2);
        D.due("at the 12th", s.stuck(), 11);
    }

    /** "longer than what is left": as long is not. */
    private static void stuckAsLong() {
        D.due("as long", Due.page(9, 1, 3, 3, 3).stuck(), -1);
        D.due("longer", Due.page(8, 1, 3, 3, 3).stuck(), 2);
    }

    /** "(3; .. NONE: no PIECES)". */
    private static void sentencesOfNone() {
        D.row("of none", sentencesRow(new SoldStops()), 0, 0, 0, -1);
        SoldStops s = Due.full();
        s.page(1, 1);
        D.row("of none, behind a page", sentencesRow(s), 0, 0, 0, -1);
    }

    /** One PIECE, ended or not. */
    private static void sentencesOfOne() {
        SoldStops s = Due.page(9, 1, 1);
        D.row("of one", sentencesRow(s), 1, 0, 1, 0);
        s.put(0, 1);
        D.row("of one that is ended", sentencesRow(s), 1, 1, 1, 0);
    }

    /** "the last one to the end (not ENDED, if no MARK there ENDS)". */
    private static void sentencesToTheEnd() {
        SoldStops s = Due.page(9, 1, 1, 1, 1);
        s.put(1, 1);
        D.row("not ended", sentencesRow(s), 2, 0, 2, 0);
        s.put(2, 0);
        D.row("a comma there", sentencesRow(s), 2, 0, 2, 0);
        s.put(2, 1);
        D.row("ended", sentencesRow(s), 2, 1, 2, 0);
        s.sell(1);
        D.row("one to the end", sentencesRow(s), 1, 1, 3, 0);
    }

    /** "whether it ENDS a sentence": no, yes, yes, yes, no, yes. */
    private static void sentencesKinds() {
        int[] ends = {0, 1, 1, 1, 0, 1};
        for (int kind = 0; kind < 6; kind++) {
            SoldStops s = Due.page(9, 1, 1, 1);
            s.put(0, kind);
            D.row("kind " + kind + " within", sentencesRow(s), 1 + ends[kind], 0, 2 - ends[kind], 0);
            s.put(1, kind);
            D.row("kind " + kind + " at the end", sentencesRow(s), 1 + ends[kind], ends[kind], 2 - ends[kind], 0);
        }
    }

    /** All 12 PIECES: one sentence each, or one of all. */
    private static void sentencesOfAll() {
        SoldStops s = Due.full();
        D.row("twelve", sentencesRow(s), 12, 1, 1, 0);
        for (int i = 0; i < 11; i++) {
            s.put(i, 0);
        }
        D.row("one", sentencesRow(s), 1, 1, 12, 0);
        s.put(0, 1);
        D.row("one and eleven", sentencesRow(s), 2, 1, 11, 1);
    }

    /** "FIRST of like ones: which (0 the first)". */
    private static void longestIsFirst() {
        SoldStops s = Due.page(9, 1, 1, 1, 1, 1, 1);
        s.put(0, 1);
        s.put(2, 1);
        D.row("1, 2, 2", sentencesRow(s), 3, 0, 2, 1);
        s.put(4, 1);
        D.row("1, 2, 2 ended", sentencesRow(s), 3, 1, 2, 1);
        s.put(1, 1);
        D.row("1, 1, 1, 2", sentencesRow(s), 4, 1, 2, 3);
    }

    /** "BAD": another what. */
    private static void sentencesWhat() {
        SoldStops s = new SoldStops();
        D.row("sentences", new long[] {s.sentences(-1), s.sentences(4), s.status(0)}, -2, -2, 2);
    }

    /** "(no PIECES: 0, with an end, too)". */
    private static void cheapestOfNone() {
        SoldStops s = Due.page(1, 9);
        D.row("of none", new long[] {s.cheapest(1, 0, -1), s.cheapest(1, 1, -1), s.cheapest(30, 1, -1)}, 0, 0, 0);
        D.row("no i-th", new long[] {s.cheapest(1, 0, 0), s.cheapest(1, 1, 0)}, -5, -5);
    }

    /** "BREATH b (1 .. 30)", "(end 1: with an end; 0)", "(i = NONE)": BAD: -10. */
    private static void cheapestBounds() {
        SoldStops s = Due.page(9, 1, 1);
        D.row("bad", new long[] {s.cheapest(0, 0, 0), s.cheapest(31, 0, 0), s.cheapest(9, -1, 0), s.cheapest(9, 2, 0),
            s.cheapest(9, 0, -2), s.status(0)}, -10, -10, -10, -10, -10, 5);
        D.row("good", new long[] {s.cheapest(1, 0, 0), s.cheapest(30, 1, 0), s.cheapest(30, 0, -1), s.status(0)},
            -1, 1, 0, 5);
    }

    /** A number that is not as told is refused, ahead of all that is answered. */
    private static void cheapestBadAheadOfAll() {
        SoldStops s = Due.page(9, 1, 1);
        D.row("bad and not so many", new long[] {s.cheapest(0, 0, 9), s.cheapest(9, 2, 9)}, -10, -10);
        s.page(1, 1);
        s.word(9);
        D.row("bad and no way", new long[] {s.cheapest(1, 2, 0), s.cheapest(1, 0, -2)}, -10, -10);
    }

    /** "-5: .. not so many PIECES": no refusal. */
    private static void cheapestNotSoMany() {
        SoldStops s = Due.page(9, 1, 1, 1);
        D.row("not so many", new long[] {s.cheapest(9, 0, 1), s.cheapest(9, 0, 2), s.cheapest(9, 0, 12),
            s.cheapest(9, 1, Integer.MAX_VALUE)}, -1, -5, -5, -5);
        D.row("no refusal", new long[] {s.status(0), s.status(1), s.status(2)}, 0, 0, 0);
        SoldStops full = Due.full();
        D.row("of 12", new long[] {full.cheapest(9, 0, 11), full.cheapest(9, 0, 12)}, -1, -5);
    }

    /** "none: by none": a PIECE longer than BREATH; -5 for how much and for each. */
    private static void cheapestNoWay() {
        SoldStops s = Due.page(30, 1, 1, 9);
        D.row("no way", cheapestRow(s, 8, 0), -5, -5, -5);
        D.row("a way", cheapestRow(s, 9, 0), 1, 0, -1);
        D.row("no refusal", new long[] {s.status(0), s.status(1), s.status(2)}, 0, 0, 0);
    }

    /** Nothing need be bought: 0. */
    private static void cheapestFree() {
        SoldStops s = Due.page(1, 9, 9, 9);
        D.row("just enough", cheapestRow(s, 18, 0), 0, -1, -1);
        D.row("one less", cheapestRow(s, 17, 0), 9, 0, -1);
    }

    /** "from BREATH b on (that is BREATH, too)": marks give b at most, not BREATH. */
    private static void cheapestFromBreath() {
        SoldStops s = Due.page(30, 2, 5, 4, 5);
        D.row("from 5", cheapestRow(s, 5, 0), 6, 4, 4, -1);
        s.breath(1);
        D.row("from 5, breath 1", cheapestRow(s, 5, 0), 6, 4, 4, -1);
        D.row("from 30, breath 1", cheapestRow(s, 30, 0), 0, -1, -1, -1);
    }

    /** "behind PIECES that have none; the others stay": a comma does not become a stop. */
    private static void cheapestOthersStay() {
        SoldStops s = Due.page(9, 2, 9, 9, 9);
        s.put(0, 0);
        D.row("a comma gives too little", cheapestRow(s, 9, 0), -5, -5, -5, -5);
        s.put(0, 1);
        D.row("a stop stays, nothing is bought there", cheapestRow(s, 9, 0), 6, -1, 1, -1);
    }

    /** "with an end: behind the last PIECE one that ENDS, too". */
    private static void cheapestEnd() {
        SoldStops s = Due.page(9, 2, 1, 1);
        D.row("no end", cheapestRow(s, 9, 0), 0, -1, -1);
        D.row("with an end", cheapestRow(s, 9, 1), 6, -1, 1);
        D.row("with an end, no way", cheapestRow(Due.page(9, 2, 9, 9, 1), 8, 1), -5, -5, -5, -5);
    }

    /** The last one's own MARK stays: it ENDS, or there is no way. */
    private static void cheapestEndThere() {
        long[] least = {-5, 0, 0, 0, -5, 0};
        for (int kind = 0; kind < 6; kind++) {
            SoldStops s = Due.page(9, 2, 1, 1);
            s.put(1, kind);
            D.due("an end that is there, kind " + kind, s.cheapest(9, 1, -1), least[kind]);
            D.due("no end asked, kind " + kind, s.cheapest(9, 0, -1), 0);
        }
    }

    /** "of like ones the fewest": one dash for 2 ahead of two commas, though these come first. */
    private static void cheapestFewest() {
        D.row("one dash", cheapestRow(Due.page(12, 1, 9, 6, 3), 12, 0), 2, 4, -1, -1);
        D.row("one dash, later", cheapestRow(Due.page(12, 1, 6, 6, 6), 12, 0), 2, -1, 4, -1);
        // A colon for 8 gives 12; two dashes for 8 would, too, and a stop for 9 more.
        D.row("one colon", cheapestRow(Due.page(30, 3, 9, 9, 9, 7, 7), 30, 0), 8, -1, -1, 5, -1, -1);
    }

    /** "then the first row (by PIECES: none ..": the mark comes as late as can be. */
    private static void cheapestNoneFirst() {
        D.row("none first", cheapestRow(Due.page(10, 1, 4, 4, 4), 10, 0), 1, -1, 0, -1);
        D.row("none first, of four", cheapestRow(Due.page(9, 1, 3, 3, 3, 3), 9, 0), 1, -1, -1, 0, -1);
    }

    /** ".., then KINDS)": of like costs the lower number. */
    private static void cheapestKindsFirst() {
        SoldStops s = Due.page(10, 1, 9, 7);
        D.row("a dash", cheapestRow(s, 10, 0), 2, 4, -1);
        s.week(1);
        D.row("a question for as much as a dash", cheapestRow(s, 10, 0), 2, 2, -1);
        s = Due.page(9, 2, 1);
        D.row("a stop, a question, a colon for as much", cheapestRow(s, 9, 1), 6, 1);
        s.price(1);
        s.week(2);
        D.row("a stop and a question for as much", cheapestRow(s, 9, 1), 3, 1);
        s = Due.page(10, 1, 9, 9);
        s.put(1, 1);
        D.row("a stop for as much as a question", cheapestRow(s, 10, 0), 3, 1, -1);
    }

    /** "half of BREATH (cut) at least": of b, that is. */
    private static void cheapestColon() {
        SoldStops s = Due.page(1, 9, 9, 9, 8);
        s.put(0, 0);
        D.row("half of 16 is 8", cheapestRow(s, 16, 0), 20, -1, 5, -1);
        s = Due.page(1, 9, 9, 9, 8);
        s.put(0, 0);
        D.row("half of 15 is 7", cheapestRow(s, 15, 0), 27, -1, 1, -1);
        s = Due.page(1, 9, 9, 9, 7);
        s.put(0, 0);
        D.row("7 is enough", cheapestRow(s, 15, 0), 20, -1, 5, -1);
    }

    /** What they COST in the WEEK that is. */
    private static void cheapestByTheWeek() {
        SoldStops s = Due.page(9, 9, 9, 9);
        D.row("week 0", cheapestRow(s, 9, 0), 27, 1, -1);
        s.week(1);
        D.row("week 1", cheapestRow(s, 9, 0), 18, 2, -1);
        s.week(1);
        D.row("week 2", cheapestRow(s, 9, 0), 27, 1, -1);
        s.price(1);
        D.row("price 1", cheapestRow(s, 9, 0), 3, 1, -1);
    }

    /** All 12 bought, at the greatest PRICE: more than one can have in the PURSE of one mark. */
    private static void cheapestOfTwelve() {
        SoldStops s = Due.page(9, 9, 9, 9, 9, 9, 9, 9, 9, 9, 9, 9, 9, 9);
        D.row("twelve", cheapestRow(s, 9, 1), 317, 1, 1, 1, 1, 1, 1, 1, 1, 1, 1, 1, 5);
        D.row("eleven", cheapestRow(s, 9, 0), 297, 1, 1, 1, 1, 1, 1, 1, 1, 1, 1, 1, -1);
    }

    /** The PURSE sets no bound to it. */
    private static void cheapestIsNotThePurse() {
        SoldStops s = Due.page(9, 9, 9, 9);
        D.due("an empty purse", s.cheapest(9, 0, -1), 27);
        s.purse(999);
        D.due("a full purse", s.cheapest(9, 0, -1), 27);
    }

    /** "REACH of q (0 .. 999)": BAD. */
    private static void reachBounds() {
        SoldStops s = Due.page(9, 1, 9, 9);
        D.row("reach", new long[] {s.reach(-1), s.reach(1000), s.reach(0), s.reach(999), s.status(0)}, -2, -2, 1, 2, 2);
    }

    /** No PIECES: 0; none that can be read: 0. */
    private static void reachOfNone() {
        SoldStops s = Due.page(8, 1);
        D.row("no pieces", new long[] {s.reach(0), s.reach(999)}, 0, 0);
        s.word(9);
        D.row("stuck at the first", new long[] {s.reach(0), s.reach(999)}, 0, 0);
    }

    /** "for no more than q": just as much is no more. */
    private static void reachJustEnough() {
        SoldStops s = Due.page(9, 9, 9, 9, 9);
        D.row("stops for 27", new long[] {s.reach(26), s.reach(27), s.reach(53), s.reach(54)}, 1, 2, 2, 3);
        s.week(1);
        D.row("questions for 18", new long[] {s.reach(17), s.reach(18), s.reach(35), s.reach(36)}, 1, 2, 2, 3);
    }

    /** The last PIECE needs none behind it; a PIECE at which one is STUCK none, too. */
    private static void reachWithTheLastMark() {
        SoldStops s = Due.page(9, 1, 9, 3, 9);
        D.row("a comma, then a stop", new long[] {s.reach(0), s.reach(1), s.reach(3), s.reach(4)}, 1, 2, 2, 3);
    }

    /** "MARKS for no more than q are bought": behind PIECES that have none, from BREATH on. */
    private static void reachOthersStay() {
        SoldStops s = Due.page(9, 1, 9, 9, 9);
        s.put(0, 0);
        D.row("a comma stays", new long[] {s.reach(0), s.reach(999)}, 1, 1);
        s.put(0, 1);
        D.row("a stop stays", new long[] {s.reach(0), s.reach(2), s.reach(3)}, 2, 2, 3);
        s.breath(8);
        D.row("by BREATH", new long[] {s.reach(0), s.reach(999)}, 0, 0);
    }

    /** All 12. */
    private static void reachAll() {
        SoldStops s = Due.page(9, 9, 9, 9, 9, 9, 9, 9, 9, 9, 9, 9, 9, 9);
        D.row("twelve", new long[] {s.reach(296), s.reach(297), s.reach(999), s.reach(0)}, 11, 12, 12, 1);
        D.due("a full page, for nothing", Due.full().reach(0), 12);
    }

    /** No PIECES: 0 are read; there is no i-th. */
    private static void orderOfNone() {
        SoldStops s = new SoldStops();
        D.row("of none", new long[] {s.order(-1), s.order(0), s.status(0)}, 0, -5, 0);
    }

    /** "(i = NONE)": below it is BAD: -10. */
    private static void orderBounds() {
        SoldStops s = Due.page(9, 1, 1);
        D.row("order", new long[] {s.order(-2), s.order(Integer.MIN_VALUE), s.order(-1), s.order(0), s.status(0)},
            -10, -10, 1, 0, 2);
    }

    /** "PIECES (7 at most)": 7 are put into another order, the last row of all, too. */
    private static void orderOfSeven() {
        SoldStops s = Due.page(28, 1, 7, 6, 5, 4, 3, 2, 1);
        D.row("as they are", orderRow(s), 7, 0, 1, 2, 3, 4, 5, 6);
        s = Due.page(25, 1, 1, 2, 3, 4, 5, 6, 7);
        s.put(0, 0);
        // The comma gives 3, as is needed, only behind one of 3 at least.
        D.row("a comma in time", orderRow(s), 7, 2, 0, 1, 3, 4, 5, 6);
        s = Due.page(9, 1, 9, 8, 7, 6, 5, 4, 3);
        D.row("two of seven", orderRow(s), 2, 3, 6, 0, 1, 2, 4, 5);
        s = Due.page(7, 1, 7, 6, 5, 4, 3, 2, 1);
        for (int i = 1; i < 6; i++) {
            s.put(i, 1);
        }
        D.row("the two last behind one another", orderRow(s), 7, 1, 6, 0, 2, 3, 4, 5);
    }

    /** "NO: more than 7 PIECES: -20": for each i; BAD goes ahead of it. */
    private static void orderOfEight() {
        SoldStops s = Due.page(9, 1, 1, 1, 1, 1, 1, 1, 1, 1);
        D.row("of 8", new long[] {s.order(-1), s.order(0), s.order(7), s.order(-2)}, -20, -20, -20, -10);
        D.row("status", new long[] {s.status(0), s.status(1), s.status(2)}, 1, 3, 0);
        D.row("of 12", new long[] {Due.full().order(-1), Due.full().order(11)}, -20, -20);
    }

    /** "-5: not so many": no refusal. */
    private static void orderNotSoMany() {
        SoldStops s = Due.page(9, 1, 1, 1, 1, 1, 1, 1, 1);
        D.row("of 7", new long[] {s.order(6), s.order(7), s.order(8), s.order(Integer.MAX_VALUE)}, 6, -5, -5, -5);
        D.row("status", new long[] {s.status(0), s.status(1), s.status(2)}, 0, 0, 0);
    }

    /** None can be read: 0, and the first row of all. */
    private static void orderNothingRead() {
        D.row("none can be read", orderRow(Due.page(1, 1, 2, 3, 2)), 0, 0, 1, 2);
    }

    /** "of like ones the first row (by PIECES as they are now)". */
    private static void orderFirstRow() {
        D.row("all alike", orderRow(Due.page(9, 1, 3, 3, 3)), 3, 0, 1, 2);
        D.row("two of three", orderRow(Due.page(9, 1, 5, 5, 4)), 2, 0, 2, 1);
        D.row("the first two", orderRow(Due.page(9, 1, 4, 5, 4)), 2, 0, 1, 2);
    }

    /** "MARKS staying at their places". */
    private static void orderMarksStay() {
        SoldStops s = Due.page(9, 1, 1, 9);
        s.put(0, 1);
        D.row("a stop behind the first place", orderRow(s), 2, 0, 1);
        s = Due.page(9, 1, 8, 9, 1);
        s.put(1, 1);
        D.row("a stop behind the second place", orderRow(s), 3, 0, 2, 1);
        D.due("of(1, 1)", s.of(1, 1), 1);
    }

    /** Those that are not read come behind, as they stand. */
    private static void orderBehindTheStuck() {
        D.row("one of four", orderRow(Due.page(5, 1, 9, 8, 7, 5)), 1, 3, 0, 1, 2);
        D.row("one of four, the first one", orderRow(Due.page(5, 1, 5, 8, 7, 9)), 1, 0, 1, 2, 3);
    }
}
