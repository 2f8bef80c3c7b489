import java.math.BigInteger;

/** Promises 24 to 30 at their edges: each function breaks where the sentence above it is broken. */
public final class EdgeHeardTest {
    private static final Due D = new Due("EdgeHeardTest");
    private static final int ALL = 0x7FFFFFFE;

    public static void main(String[] args) {
        heardNoSuchPiece();
        heardAtNone();
        heardFull();
        heardAsTheTextWas();
        heardByItsOwnBreath();
        forgetAnswers();
        forgetMakesRoom();
        breathsOfNone();
        breathsFirstAndLast();
        breathsByAll();
        shorterNone();
        shorterOfOne();
        shorterFirstOfLikeOnes();
        shorterTheLast();
        shorterWithItsMark();
        shorterOfTheseBreaths();
        shorterOfTheLeastAndTheGreatest();
        shorterAsTheTextIs();
        shorterThoseWhoReadAll();
        bidBounds();
        bidEmptyPurses();
        bidWhatItCosts();
        bidWorthAsMuch();
        bidAlike();
        bidFirst();
        bidGreatest();
        bidByTheWeek();
        oddsBounds();
        oddsOfNone();
        oddsNeverAndAlways();
        oddsLowestTerms();
        oddsOfTwelve();
        oddsApart();
        drawnBounds();
        drawnNothing();
        drawnLengths();
        drawnGoesOnBehindTheStuck();
        drawnLeftOver();
        drawnMarksAsTheyAre();
        D.end();
    }

    private static int bits(int from, int to) {
        int bits = 0;
        for (int b = from; b <= to; b++) {
            bits |= 1 << b;
        }
        return bits;
    }

    /** "BAD: no such PIECE, too". */
    private static void heardNoSuchPiece() {
        SoldStops s = new SoldStops();
        D.row("no pieces", new long[] {s.heard(0), s.heard(-2), s.count(6)}, -2, -2, 0);
        s.word(1);
        D.row("one piece", new long[] {s.heard(1), s.heard(0), s.count(6)}, -2, 1, 1);
        s = Due.full();
        s.forget();
        D.row("12 pieces", new long[] {s.heard(12), s.heard(11), s.status(0)}, -2, 1, 1);
    }

    /** "(word NONE: at none)": below it is BAD. */
    private static void heardAtNone() {
        SoldStops s = Due.page(9, 1, 7);
        D.row("at none", new long[] {s.heard(-2), s.heard(-1), s.breaths()}, -2, 1, bits(7, 30));
        s = new SoldStops();
        D.row("no pieces: all", new long[] {s.heard(-1), s.breaths()}, 1, ALL);
    }

    /** "HEARD 0 .. 5": "FULL: 6", BAD ahead of it. */
    private static void heardFull() {
        SoldStops s = Due.page(9, 1, 7);
        for (int i = 1; i <= 6; i++) {
            D.due("heard", s.heard(-1), i);
        }
        D.row("a 7th", new long[] {s.heard(-1), s.heard(0), s.heard(1), s.heard(-2), s.count(6), s.breaths()},
            -4, -4, -2, -2, 6, bits(7, 30));
        D.row("status", new long[] {s.status(0), s.status(1), s.status(2)}, 2, 0, 2);
    }

    /** "in the text as it is when it is HEARD". */
    private static void heardAsTheTextWas() {
        SoldStops s = Due.page(9, 1, 7);
        s.heard(0);
        s.put(0, 1);
        s.word(9);
        s.breath(1);
        s.week(1);
        D.due("as it was", s.breaths(), bits(1, 6));
        s.heard(1);
        D.due("by both", s.breaths(), 0);
        s.forget();
        s.heard(1);
        D.due("as it is", s.breaths(), bits(7, 8));
    }

    /** "BREATHS 1 .. 30 (as BREATH is)": marks give as much as each has. */
    private static void heardByItsOwnBreath() {
        SoldStops s = Due.page(1, 1, 5, 7, 4);
        s.put(0, 1);
        s.put(1, 5);
        s.heard(2);
        // By 7 there is nothing left at the colon, and it gives 6.
        D.due("none is stuck at the last", s.breaths(), 0);
        s.forget();
        s.heard(1);
        D.due("a stop gives all of it", s.breaths(), bits(5, 6));
        s.forget();
        s.heard(-1);
        D.due("read to an end", s.breaths(), bits(7, 30));
        s.forget();
        s = Due.page(30, 1, 9, 9, 6);
        s.put(0, 5);
        s.heard(1);
        D.due("a colon gives 6 to 8", s.breaths(), bits(9, 11));
        s.forget();
        s.heard(2);
        D.due("a colon gives 9 to 14", s.breaths(), bits(12, 17));
    }

    /** "No HEARD: how many there were": none, and all 6. */
    private static void forgetAnswers() {
        D.due("none", new SoldStops().forget(), 0);
        SoldStops s = Due.full();
        D.row("six", new long[] {s.forget(), s.count(6), s.breaths(), s.forget()}, 6, 0, ALL, 0);
    }

    /** Behind it HEARD come from 0 on. */
    private static void forgetMakesRoom() {
        SoldStops s = Due.full();
        D.row("room", new long[] {s.heard(-1), s.forget(), s.heard(0), s.breaths(), s.count(6)}, -4, 6, 1, 0, 1);
    }

    /** "(bits 1 .. 30)": without HEARD all of them, not 0, not 31. */
    private static void breathsOfNone() {
        D.due("all", new SoldStops().breaths(), ALL);
        D.due("all, breath 1", Due.page(1, 1, 9).breaths(), ALL);
    }

    /** Bit 1 and bit 30 alone. */
    private static void breathsFirstAndLast() {
        SoldStops s = Due.page(9, 1, 2);
        s.heard(0);
        D.due("1 alone", s.breaths(), 2);
        s = Due.page(9, 1, 9, 9, 9, 3);
        s.heard(-1);
        D.due("30 alone", s.breaths(), 1 << 30);
    }

    /** "by which all HEARD are so": each of the six counts. */
    private static void breathsByAll() {
        SoldStops s = Due.page(9, 1);
        for (int i = 0; i < 6; i++) {
            s.word(2);
            s.heard(-1);
            D.due("read to an end of " + (2 * i + 2), s.breaths(), bits(2 * i + 2, 30));
        }
        s.forget();
        for (int i = 5; i >= 0; i--) {
            s.heard(i == 0 ? 5 : -1);
        }
        D.due("the last one", s.breaths(), 0);
        s.forget();
        for (int i = 5; i >= 0; i--) {
            s.heard(i == 5 ? 5 : -1);
        }
        D.due("the first one", s.breaths(), 0);
    }

    /** "none: no BREATH, no PIECES". */
    private static void shorterNone() {
        SoldStops s = new SoldStops();
        D.due("no pieces", s.shorter(), -1);
        s.heard(-1);
        D.due("no pieces, heard", s.shorter(), -1);
        s.word(1);
        D.due("a piece", s.shorter(), 0);
        s.heard(0);
        D.row("no breath", new long[] {s.breaths(), s.shorter()}, 0, -1);
        s.forget();
        D.due("each breath again", s.shorter(), 0);
    }

    /** One PIECE: without it all are read. */
    private static void shorterOfOne() {
        D.due("one", Due.page(9, 1, 9).shorter(), 0);
        SoldStops s = Due.page(9, 1, 9);
        s.heard(0);
        D.due("one, heard", s.shorter(), 0);
    }

    /** "of like ones the first". */
    private static void shorterFirstOfLikeOnes() {
        D.due("all alike", Due.page(9, 1, 3, 3, 3).shorter(), 0);
        D.due("twelve alike", Due.page(9, 1, 9, 9, 9, 9, 9, 9, 9, 9, 9, 9, 9, 9).shorter(), 0);
        SoldStops s = Due.page(9, 1, 1, 9, 9);
        s.put(0, 1);
        s.put(1, 1);
        // Without the first 22 read all; without one of the others, too.
        D.due("three alike", s.shorter(), 0);
    }

    /** The last PIECE may be the one. */
    private static void shorterTheLast() {
        SoldStops s = Due.page(9, 1, 8, 1, 1, 1, 1, 1, 1, 1, 1, 1, 1, 9);
        s.put(10, 1);
        for (int i = 0; i < 10; i++) {
            s.put(i, 1);
        }
        s.heard(11);
        // By 8 alone: one breath, like without any: the first.
        D.row("one breath", new long[] {s.breaths(), s.shorter()}, 1 << 8, 0);
        s = Due.page(9, 1, 9, 3);
        s.put(0, 1);
        // Without the first 2 are stuck, without the last 8.
        D.due("without the last 22 are alike, without the first 28", s.shorter(), 1);
    }

    /** "were it gone (with its MARK)". */
    private static void shorterWithItsMark() {
        SoldStops s = Due.page(9, 1, 4, 3, 6);
        s.put(1, 1);
        // Without it 21 at most are alike; 25 or 24 without another; 25, if its stop stayed.
        D.due("with its mark", s.shorter(), 1);
    }

    /** "of these BREATHS": of those by which all HEARD are so. */
    private static void shorterOfTheseBreaths() {
        SoldStops s = Due.page(9, 1, 4, 5, 6);
        D.due("of all", s.shorter(), 0);
        s.heard(1);
        // Of 4 to 8: without the first 1 and 4; without the second 5; without the last 5.
        D.due("of 4 to 8", s.shorter(), 0);
        s.forget();
        s.heard(0);
        // Of 1 to 3 all are stuck at once, whatever is gone.
        D.due("of 1 to 3", s.shorter(), 0);
        s = Due.page(9, 1, 3, 1, 9);
        // Of 30: without the first 21 read all; without the second 19; without the last 27.
        D.due("of all again", s.shorter(), 1);
        s.heard(2);
        // Of 4 to 12: without the first 6 are stuck, 3 not; without the second 8 and 1; without the last none.
        D.due("of 4 to 12", s.shorter(), 0);
        s.breath(12);
        D.due("BREATH is not of them", s.shorter(), 0);
    }

    /** BREATHS 1 and 30 count as all others do. */
    private static void shorterOfTheLeastAndTheGreatest() {
        SoldStops s = Due.page(9, 1, 1, 3);
        s.put(0, 1);
        s.heard(1);
        s.word(2);
        // Without the second 1 is stuck, 2 not; without another both are stuck at once.
        D.row("of 1 and 2", new long[] {s.breaths(), s.shorter()}, bits(1, 2), 1);
        s = Due.page(9, 1, 9, 9, 9, 2);
        s.heard(-1);
        s.word(3);
        // Without the one of 2 there are 30 left, without another fewer.
        D.row("of 29 and 30", new long[] {s.breaths(), s.shorter()}, bits(29, 30), 3);
    }

    /** "in the text as it is now": not as it was when HEARD. */
    private static void shorterAsTheTextIs() {
        SoldStops s = Due.page(9, 1, 9);
        s.heard(0);
        s.word(5);
        // Of 1 to 8: without the first 4 are stuck, 4 not; without the second all are.
        D.due("a piece that came", s.shorter(), 0);
        s = Due.page(9, 1, 5);
        s.heard(-1);
        s.word(9);
        // Of 5 to 30: without the first 4 and 22; without the second all are read.
        D.due("a longer one that came", s.shorter(), 0);
        s = Due.page(9, 1, 9);
        s.heard(-1);
        s.word(9);
        s.word(9);
        // Of 9 to 30: without one of three 9 are stuck, 13 not.
        D.due("two that came", s.shorter(), 0);
        s.put(0, 1);
        // Without the first as before; without another all 22 are read.
        D.due("a mark that came", s.shorter(), 0);
        s.put(1, 1);
        D.due("two marks", s.shorter(), 0);
        s.sell(0);
        // Without the first all 22; without the second 9 and 13; without the last 9 and 13.
        D.due("one mark", s.shorter(), 1);
    }

    /** Those who are stuck at no PIECE are alike, too. */
    private static void shorterThoseWhoReadAll() {
        SoldStops s = Due.page(9, 1, 2, 9);
        s.put(0, 1);
        s.heard(-1);
        // Of 9 to 30 all read on: like without any.
        D.due("all read on", s.shorter(), 0);
        s = Due.page(9, 1, 1, 9);
        // Without the first 8 and 22; without the second all 30.
        D.due("all 30 would be alike", s.shorter(), 0);
        s = Due.page(9, 1, 9, 1);
        s.put(0, 1);
        D.due("all 30 would be alike, the other way round", s.shorter(), 1);
    }

    /** "purses a, b (0 .. 20), it is worth x, y (0 .. 20)", "BAD: -10". */
    private static void bidBounds() {
        int[][] least = {{0, 0, 0, 0, 0, 0}, {5, 20, 20, 20, 20, 1}};
        for (int k = 0; k < 6; k++) {
            SoldStops s = new SoldStops();
            int[] below = least[0].clone();
            int[] above = least[1].clone();
            below[k]--;
            above[k]++;
            D.row("bounds, argument " + k, new long[] {bid(s, below), bid(s, above), s.status(0)}, -10, -10, 2);
            D.row("within", new long[] {bid(s, least[0]), bid(s, least[1]) >= 0 ? 1 : 0, s.status(0)}, 1, 1, 2);
        }
    }

    private static int bid(SoldStops s, int[] a) {
        return s.bid(a[0], a[1], a[2], a[3], a[4], a[5]);
    }

    private static void bids(SoldStops s, int[] a, int many, int first) {
        D.row("bid(" + a[0] + ", " + a[1] + ", " + a[2] + ", " + a[3] + ", " + a[4] + ")",
            new long[] {s.bid(a[0], a[1], a[2], a[3], a[4], 0), s.bid(a[0], a[1], a[2], a[3], a[4], 1)}, many, first);
    }

    /** "each bids 0 .. its purse". */
    private static void bidEmptyPurses() {
        SoldStops s = new SoldStops();
        bids(s, new int[] {0, 0, 0, 20, 20}, 1, 0);
        bids(s, new int[] {0, 20, 0, 20, 20}, 1, 200);
        bids(s, new int[] {0, 0, 20, 20, 20}, 1, 2);
        s.price(1);
        // Who would pay 1 for nothing would have more by 0.
        bids(s, new int[] {0, 1, 0, 0, 0}, 1, 0);
        bids(s, new int[] {0, 0, 1, 0, 0}, 1, 0);
    }

    /** "BIDS below what it COSTS do not count (nobody has it for less)": as much counts. */
    private static void bidWhatItCosts() {
        SoldStops s = new SoldStops();
        bids(s, new int[] {0, 1, 0, 20, 20}, 2, 0);
        bids(s, new int[] {0, 2, 0, 20, 20}, 1, 200);
        bids(s, new int[] {0, 3, 0, 20, 20}, 1, 200);
        s.price(9);
        bids(s, new int[] {0, 8, 8, 20, 20}, 81, 0);
        bids(s, new int[] {1, 20, 20, 20, 20}, 441, 0);
    }

    /** "its worth less what it pays", "one who has it not: 0": for as much as it is worth nobody would have more. */
    private static void bidWorthAsMuch() {
        SoldStops s = new SoldStops();
        bids(s, new int[] {0, 20, 0, 2, 0}, 3, 0);
        bids(s, new int[] {0, 20, 0, 3, 0}, 1, 200);
        bids(s, new int[] {0, 20, 0, 1, 0}, 2, 0);
        bids(s, new int[] {0, 20, 0, 0, 0}, 2, 0);
        bids(s, new int[] {0, 0, 20, 0, 2}, 3, 0);
    }

    /** "alike: nobody has it". */
    private static void bidAlike() {
        SoldStops s = new SoldStops();
        bids(s, new int[] {0, 2, 2, 20, 20}, 5, 2);
        bids(s, new int[] {0, 3, 3, 20, 20}, 3, 203);
    }

    /** "the first (100 the one and the other)": by the one, then by the other. */
    private static void bidFirst() {
        SoldStops s = new SoldStops();
        bids(s, new int[] {0, 2, 2, 2, 20}, 5, 2);
        bids(s, new int[] {0, 20, 2, 20, 20}, 3, 200);
        bids(s, new int[] {0, 2, 20, 20, 20}, 3, 2);
    }

    /** Both have 20, it is worth 20 to both. */
    private static void bidGreatest() {
        SoldStops s = new SoldStops();
        // 18 and 19, 19 and 18, 19 and 19; with 20 of one the other has 19 or 20: nobody would have more.
        bids(s, new int[] {0, 20, 20, 20, 20}, 6, 1819);
        for (int a = 0; a <= 20; a += 4) {
            for (int b = 0; b <= 20; b += 5) {
                bids(s, new int[] {1, a, b, 9, 13}, manyByHand(6, a, b, 9, 13), firstByHand(6, a, b, 9, 13));
                bids(s, new int[] {0, a, b, 20, 7}, manyByHand(2, a, b, 20, 7), firstByHand(2, a, b, 20, 7));
            }
        }
    }

    private static int has(int bid, int other, int worth, int cost) {
        return bid > other && bid >= cost ? worth - bid : 0;
    }

    private static boolean rests(int cost, int[] bids, int[] purses, int[] worths, int who) {
        int now = has(bids[who], bids[1 - who], worths[who], cost);
        for (int bid = 0; bid <= purses[who]; bid++) {
            if (has(bid, bids[1 - who], worths[who], cost) > now) {
                return false;
            }
        }
        return true;
    }

    private static int manyByHand(int cost, int a, int b, int x, int y) {
        int many = 0;
        for (int k = 0; k < (a + 1) * (b + 1); k++) {
            many += restsByHand(cost, k, a, b, x, y) ? 1 : 0;
        }
        return many;
    }

    private static int firstByHand(int cost, int a, int b, int x, int y) {
        int k = 0;
        while (k < (a + 1) * (b + 1) && !restsByHand(cost, k, a, b, x, y)) {
            k++;
        }
        return k == (a + 1) * (b + 1) ? -1 : k / (b + 1) * 100 + k % (b + 1);
    }

    private static boolean restsByHand(int cost, int k, int a, int b, int x, int y) {
        int[] bids = {k / (b + 1), k % (b + 1)};
        return rests(cost, bids, new int[] {a, b}, new int[] {x, y}, 0)
            && rests(cost, bids, new int[] {a, b}, new int[] {x, y}, 1);
    }

    /** "what it COSTS": in the WEEK that is. */
    private static void bidByTheWeek() {
        SoldStops s = new SoldStops();
        bids(s, new int[] {2, 5, 0, 20, 0}, 6, 0);
        s.week(1);
        bids(s, new int[] {2, 5, 0, 20, 0}, 1, 400);
        bids(s, new int[] {3, 13, 0, 20, 0}, 1, 1300);
        bids(s, new int[] {3, 12, 0, 20, 0}, 13, 0);
    }

    private static void oddsDue(SoldStops s, int c, long above, long below) {
        D.row("odds(" + c + ")", new long[] {s.odds(c), s.part(0), s.part(1)}, 1, above, below);
    }

    /** "c of 10 (0 .. 10)": BAD, and THE FRACTION stays. */
    private static void oddsBounds() {
        SoldStops s = new SoldStops();
        D.row("bad, at first", new long[] {s.odds(-1), s.odds(11), s.part(0), s.part(1)}, -2, -2, 0, 1);
        s.odds(0);
        D.row("bad", new long[] {s.odds(-1), s.odds(11), s.part(0), s.part(1), s.status(0)}, -2, -2, 1, 1, 4);
    }

    /** No PIECES, no MARKS: all is read, or it is not. */
    private static void oddsOfNone() {
        SoldStops s = Due.page(9, 1);
        oddsDue(s, 10, 1, 1);
        s.word(9);
        oddsDue(s, 10, 1, 1);
        oddsDue(s, 0, 1, 1);
        s.word(9);
        oddsDue(s, 10, 0, 1);
        oddsDue(s, 0, 0, 1);
    }

    /** 0 of 10: as they are; 10 of 10: without. */
    private static void oddsNeverAndAlways() {
        SoldStops s = Due.page(9, 1, 9, 9);
        s.put(0, 1);
        oddsDue(s, 0, 1, 1);
        oddsDue(s, 10, 0, 1);
        s.breath(18);
        oddsDue(s, 10, 1, 1);
        s.breath(8);
        oddsDue(s, 0, 0, 1);
    }

    /** "lowest terms, below above 0". */
    private static void oddsLowestTerms() {
        long[][] due = {{1, 1}, {9, 10}, {4, 5}, {7, 10}, {3, 5}, {1, 2}, {2, 5}, {3, 10}, {1, 5}, {1, 10}, {0, 1}};
        SoldStops s = Due.page(9, 1, 9, 9);
        s.put(0, 1);
        s.put(1, 0);
        for (int c = 0; c <= 10; c++) {
            oddsDue(s, c, due[c][0], due[c][1]);
        }
    }

    /** 12 PIECES: the fraction is beyond an int. */
    private static void oddsOfTwelve() {
        SoldStops s = Due.page(9, 1, 9, 9, 9, 9, 9, 9, 9, 9, 9, 9, 9, 9);
        for (int i = 0; i < 12; i++) {
            s.put(i, 1);
        }
        oddsDue(s, 1, 31381059609L, 100000000000L);
        oddsDue(s, 3, 1977326743L, 100000000000L);
        oddsDue(s, 9, 1, 100000000000L);
        oddsDue(s, 5, 1, 2048);
        oddsDue(s, 0, 1, 1);
        oddsDue(s, 10, 0, 1);
    }

    /** "each MARK is forgotten .., apart": one of two is enough. */
    private static void oddsApart() {
        SoldStops s = Due.page(10, 1, 5, 4, 4);
        s.put(0, 0);
        s.put(1, 0);
        oddsDue(s, 5, 3, 4);
        oddsDue(s, 9, 19, 100);
        oddsDue(s, 1, 99, 100);
        s.put(2, 0);
        oddsDue(s, 1, 99, 100);
    }

    /** "a SEED (0 .. 999999), n (0 .. 60)": BAD. */
    private static void drawnBounds() {
        SoldStops s = new SoldStops();
        D.row("bad", new long[] {s.drawn(-1, 1), s.drawn(1000000, 1), s.drawn(1, -1), s.drawn(1, 61), s.status(0)},
            -2, -2, -2, -2, 4);
        D.row("good", new long[] {s.drawn(0, 1), s.drawn(999999, 1), s.drawn(1, 0), s.drawn(1, 60), s.status(0)},
            1, 1, 0, 60, 4);
    }

    /** No texts: 0; texts of no PIECES are read, all of them. */
    private static void drawnNothing() {
        D.due("no texts", Due.page(30, 1, 1).drawn(5, 0), 0);
        D.due("no pieces", Due.page(1, 1).drawn(5, 60), 60);
    }

    /** "by 9 left over, and 1": 1 to 9, none longer, none shorter. */
    private static void drawnLengths() {
        SoldStops s = Due.page(9, 1, 1);
        D.due("9 is enough for one", s.drawn(77, 60), 60);
        int before = 0;
        for (int b = 1; b <= 9; b++) {
            s.breath(b);
            int now = s.drawn(77, 60);
            D.due("by breath " + b, now, byHand(77, 60, 1, b, false));
            D.due("more by more breath", now >= before ? 1 : 0, 1);
            before = now;
        }
        s.breath(8);
        D.due("8 is not", s.drawn(77, 60) < 60 ? 1 : 0, 1);
    }

    private static int byHand(long seed, int n, int words, int breath, boolean stopBehindFirst) {
        BigInteger x = BigInteger.valueOf(seed);
        int whole = 0;
        for (int t = 0; t < n; t++) {
            int left = breath;
            boolean read = true;
            for (int i = 0; i < words; i++) {
                x = x.multiply(BigInteger.valueOf(1103515245)).add(BigInteger.valueOf(12345))
                    .mod(BigInteger.valueOf(2147483648L));
                int length = x.divide(BigInteger.valueOf(65536)).mod(BigInteger.valueOf(9)).intValue() + 1;
                read = read && length <= left;
                left = stopBehindFirst && i == 0 ? breath : left - length;
            }
            whole += read ? 1 : 0;
        }
        return whole;
    }

    /** "for each PIECE in order, in each text": of a text that is STUCK, too. */
    private static void drawnGoesOnBehindTheStuck() {
        for (int words = 1; words <= 12; words++) {
            SoldStops s = Due.page(words + 3, 1);
            for (int i = 0; i < words; i++) {
                s.word(9);
            }
            for (int n = 0; n <= 60; n += 12) {
                D.due(n + " texts of " + words, s.drawn(4711, n), byHand(4711, n, words, words + 3, false));
            }
        }
    }

    /** "by 2147483648 what is left over": the first and the last SEED, long rows. */
    private static void drawnLeftOver() {
        SoldStops s = Due.page(30, 1, 1, 1, 1, 1, 1, 1, 1, 1, 1, 1, 1, 1);
        s.put(0, 1);
        for (int seed : new int[] {0, 1, 999998, 999999, 65535, 65536, 131071}) {
            s.breath(30);
            D.due("seed " + seed, s.drawn(seed, 60), byHand(seed, 60, 12, 30, true));
            SoldStops two = Due.page(9, 1, 1, 1);
            D.due("two pieces, seed " + seed, two.drawn(seed, 60), byHand(seed, 60, 2, 9, false));
        }
    }

    /** "(MARKS as they are)": they stand, and none is READ. */
    private static void drawnMarksAsTheyAre() {
        SoldStops s = Due.page(9, 1, 9, 9);
        int without = s.drawn(3, 60);
        s.put(0, 2);
        D.row("a question", new long[] {s.drawn(3, 60), s.drawn(3, 60), s.of(0, 1), s.of(0, 2)}, 60, 60, 2, 0);
        D.due("fewer without", without < 60 ? 1 : 0, 1);
        D.row("lengths stay", new long[] {s.of(0, 0), s.of(1, 0), s.stuck()}, 9, 9, -1);
    }
}
