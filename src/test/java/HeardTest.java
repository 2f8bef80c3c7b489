/** Promises 24 to 30: what was heard, bids, odds, texts by a seed. */
public final class HeardTest {
    private static final Due D = new Due("HeardTest");

    public static void main(String[] args) {
        heard();
        heardRefused();
        shorter();
        bid();
        bidBad();
        odds();
        drawn();
        D.end();
    }

    private static int bits(int from, int to) {
        int bits = 0;
        for (int b = from; b <= to; b++) {
            bits |= 1 << b;
        }
        return bits;
    }

    private static void heard() {
        SoldStops s = Due.page(10, 2, 4, 5, 6);
        D.row("heard(1)", new long[] {s.breaths(), s.heard(1), s.breaths()}, bits(1, 30), 1, bits(4, 8));
        s.put(0, 1);
        D.due("it stays as it was heard", s.breaths(), bits(4, 8));
        D.row("heard(2)", new long[] {s.heard(2), s.breaths()}, 2, bits(5, 8));
        D.row("forget", new long[] {s.forget(), s.breaths(), s.count(6), s.forget()}, 2, bits(1, 30), 0, 0);
        D.row("heard(2) alone", new long[] {s.heard(2), s.breaths()}, 1, bits(5, 10));
        s.forget();
        D.row("heard at none", new long[] {s.heard(-1), s.breaths()}, 1, bits(11, 30));
        D.row("heard against it", new long[] {s.heard(0), s.breaths()}, 2, 0);
        s.page(10, 2);
        D.row("a page has heard none", new long[] {s.count(6), s.breaths(), s.heard(-1), s.breaths()},
            0, bits(1, 30), 1, bits(1, 30));
        s = Due.page(10, 2, 4, 9);
        s.put(0, 5);
        D.row("marks give by each breath", new long[] {s.heard(-1), s.breaths()}, 1, bits(9, 30));
    }

    private static void heardRefused() {
        SoldStops s = Due.page(10, 2, 4);
        D.row("heard, bad", new long[] {s.heard(1), s.heard(-2), s.status(0), s.count(6)}, -2, -2, 2, 0);
        for (int i = 1; i <= 6; i++) {
            D.due("heard", s.heard(0), i);
        }
        D.row("heard, full", new long[] {s.heard(0), s.heard(1), s.status(2), s.status(0), s.count(6)},
            -4, -2, 1, 3, 6);
    }

    private static void shorter() {
        SoldStops s = new SoldStops();
        D.due("shorter() of none", s.shorter(), -1);
        s = Due.page(10, 2, 4, 5, 6);
        // Of 30 breaths: without 4: 4, 6, 20; without 5: 3, 6, 21; without 6: 3, 5, 22.
        D.due("shorter()", s.shorter(), 0);
        s.put(1, 1);
        s.heard(-1);
        D.due("shorter() of 22 that read all", s.shorter(), 1);
        s = Due.page(10, 2, 3, 3);
        D.due("of like ones the first", s.shorter(), 0);
        s.heard(0);
        s.heard(1);
        D.row("no breath", new long[] {s.breaths(), s.shorter()}, 0, -1);
        s = Due.page(10, 2, 9, 9, 9);
        s.put(0, 1);
        s.put(1, 1);
        s.heard(0);
        // Of 1 to 8 all are stuck at the first that is left.
        D.due("without any", s.shorter(), 0);
        s = Due.page(10, 2, 1, 9);
        s.put(0, 1);
        // Of 30: without the first 8 and 22; without the other all 30.
        D.due("all alike is worst", s.shorter(), 0);
        s = Due.page(10, 2, 9, 1);
        s.put(0, 1);
        // The same, the other way round: all 30, and 8 and 22.
        D.due("all alike is worst, at first", s.shorter(), 1);
        s = Due.page(10, 2, 2, 9);
        s.heard(1);
        // Of 2 to 10: without the first 2 to 8 are stuck, 9 and 10 not; without the other none is.
        D.due("the text as it is now", s.shorter(), 0);
    }

    private static void bid() {
        SoldStops s = new SoldStops();
        D.row("bid", new long[] {s.bid(0, 5, 5, 4, 4, 0), s.bid(0, 5, 5, 4, 4, 1)}, 7, 203);
        D.row("nobody has it for less", new long[] {s.bid(3, 11, 11, 20, 20, 0), s.bid(3, 11, 11, 20, 20, 1)}, 144, 0);
        D.row("one alone can", new long[] {s.bid(1, 20, 3, 20, 20, 0), s.bid(1, 20, 3, 20, 20, 1)}, 4, 600);
        D.row("the other alone can", new long[] {s.bid(1, 3, 20, 20, 20, 0), s.bid(1, 3, 20, 20, 20, 1)}, 4, 6);
        D.row("one bids above the other's purse", new long[] {s.bid(0, 4, 2, 10, 10, 0), s.bid(0, 4, 2, 10, 10, 1)}, 3, 200);
        D.row("worth nothing", new long[] {s.bid(0, 2, 2, 0, 0, 0), s.bid(0, 2, 2, 0, 1, 0), s.bid(0, 2, 2, 1, 0, 0)},
            5, 5, 5);
        D.row("empty purses", new long[] {s.bid(0, 0, 0, 9, 9, 0), s.bid(0, 0, 0, 9, 9, 1)}, 1, 0);
        s.week(1);
        D.row("what it costs now", new long[] {s.bid(2, 4, 3, 20, 20, 0), s.bid(2, 4, 3, 20, 20, 1)}, 4, 400);
    }

    private static void bidBad() {
        SoldStops s = new SoldStops();
        int[][] bad = {{-1, 1, 1, 1, 1, 0}, {6, 1, 1, 1, 1, 0}, {0, -1, 1, 1, 1, 0}, {0, 21, 1, 1, 1, 0},
            {0, 1, -1, 1, 1, 0}, {0, 1, 21, 1, 1, 0}, {0, 1, 1, -1, 1, 0}, {0, 1, 1, 21, 1, 0},
            {0, 1, 1, 1, -1, 0}, {0, 1, 1, 1, 21, 0}, {0, 1, 1, 1, 1, -1}, {0, 1, 1, 1, 1, 2}};
        for (int[] a : bad) {
            D.due("bid, bad", s.bid(a[0], a[1], a[2], a[3], a[4], a[5]), -10);
        }
        D.due("status(0)", s.status(0), bad.length);
    }

    private static void oddsDue(SoldStops s, int c, long above, long below) {
        D.row("odds(" + c + ")", new long[] {s.odds(c), s.part(0), s.part(1)}, 1, above, below);
    }

    private static void odds() {
        SoldStops s = new SoldStops();
        oddsDue(s, 5, 1, 1);
        s = Due.page(9, 2, 5, 5, 9);
        oddsDue(s, 3, 0, 1);
        s.put(0, 0);
        s.put(1, 1);
        oddsDue(s, 3, 49, 100);
        oddsDue(s, 0, 1, 1);
        oddsDue(s, 10, 0, 1);
        oddsDue(s, 5, 1, 4);
        s.put(2, 3);
        oddsDue(s, 4, 9, 25);
        D.row("odds, bad", new long[] {s.odds(-1), s.odds(11), s.part(0), s.part(1), s.status(0)}, -2, -2, 9, 25, 2);
        s = Due.page(1, 2, 1, 1, 1, 1, 1, 1, 1, 1, 1, 1, 1, 1);
        for (int i = 0; i < 12; i++) {
            s.put(i, 1);
        }
        oddsDue(s, 9, 1, 100000000000L);
        oddsDue(s, 1, 31381059609L, 100000000000L);
    }

    private static int drawnByHand(int breath, int words, long seed, int texts) {
        long x = seed;
        int whole = 0;
        for (int t = 0; t < texts; t++) {
            int sum = 0;
            for (int i = 0; i < words; i++) {
                x = (x * 1103515245L + 12345L) & 0x7FFFFFFFL;
                sum += (int) ((x >> 16) % 9 + 1);
            }
            whole += sum <= breath ? 1 : 0;
        }
        return whole;
    }

    private static void drawn() {
        SoldStops s = new SoldStops();
        D.row("drawn of none", new long[] {s.drawn(7, 9), s.drawn(7, 0)}, 9, 0);
        s = Due.page(14, 2, 9, 9, 9);
        for (int seed = 0; seed <= 999999; seed += 111111) {
            D.due("drawn(" + seed + ", 60)", s.drawn(seed, 60), drawnByHand(14, 3, seed, 60));
        }
        s.put(0, 1);
        D.due("marks as they are", s.drawn(7, 60) > drawnByHand(14, 3, 7, 60) ? 1 : 0, 1);
        D.row("drawn, bad", new long[] {s.drawn(-1, 0), s.drawn(1000000, 0), s.drawn(0, -1), s.drawn(0, 61), s.status(0)},
            -2, -2, -2, -2, 4);
    }
}
