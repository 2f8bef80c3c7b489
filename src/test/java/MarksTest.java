/** Promises 11 to 18: marks and weeks. */
public final class MarksTest {
    private static final Due D = new Due("MarksTest");

    public static void main(String[] args) {
        buy();
        sell();
        readOut();
        dryOut();
        week();
        undo();
        whatMayBeUndone();
        of();
        costs();
        gives();
        D.end();
    }

    private static void buy() {
        SoldStops s = Due.page(10, 3, 4, 4);
        s.purse(20);
        D.row("buy, bad", new long[] {s.buy(2, 0), s.buy(-1, 0), s.buy(0, 6), s.buy(0, -1)}, -2, -2, -2, -2);
        D.row("buy", new long[] {s.buy(0, 3), s.count(4), s.of(0, 1), s.of(0, 2), s.count(7)}, 18, 2, 3, 0, 1);
        D.row("buy, no", new long[] {s.buy(0, 0), s.buy(1, 0), s.count(4), s.count(7)}, -3, -3, 2, 1);
        D.row("status", new long[] {s.status(0), s.status(1), s.status(2)}, 4, 2, 0);
        s.purse(3);
        D.row("all the purse", new long[] {s.buy(1, 0), s.count(4)}, 3, 0);
    }

    private static void sell() {
        SoldStops s = Due.page(10, 3, 4, 4);
        s.put(0, 1);
        s.put(1, 5);
        s.purse(997);
        D.row("sell", new long[] {s.sell(0), s.count(4), s.of(0, 1), s.count(7)}, 4, 999, -1, 1);
        D.row("sell, no and bad", new long[] {s.sell(0), s.sell(2), s.sell(-1), s.count(7)}, -3, -2, -2, 1);
        D.row("status", new long[] {s.status(0), s.status(1), s.status(2)}, 2, 1, 0);
        s.purse(0);
        s.price(2);
        D.row("sell by the price now", new long[] {s.sell(1), s.count(4)}, 3, 3);
    }

    private static void readOut() {
        SoldStops s = Due.page(10, 2, 6, 6, 5, 5);
        s.put(0, 0);
        s.put(1, 1);
        s.put(3, 1);
        D.row("readOut", new long[] {s.readOut(), s.of(0, 2), s.of(1, 2), s.of(2, 2), s.of(3, 2)}, 4, 1, 1, 0, 1);
        s.breath(9);
        D.row("readOut, stuck", new long[] {s.readOut(), s.of(0, 2), s.of(1, 2), s.of(3, 2)}, 3, 2, 2, 1);
        s.breath(5);
        D.row("readOut, stuck at first", new long[] {s.readOut(), s.of(0, 2), s.count(7)}, 0, 2, 3);
        s.page(10, 2);
        D.row("readOut of none", new long[] {s.readOut(), s.count(7)}, 0, 1);
    }

    private static void dryOut() {
        int[] lasts = {9, 0, 4, 0, 5, 5};
        for (int kind = 0; kind < 6; kind++) {
            SoldStops s = Due.page(10, 2, 1);
            s.put(0, kind);
            for (int read = 1; read <= 20; read++) {
                s.readOut();
                boolean gone = lasts[kind] > 0 && read >= lasts[kind];
                D.due("kind " + kind + " read " + read, s.of(0, 1), gone ? -1 : kind);
                D.due("reads of kind " + kind, s.of(0, 2), gone ? 0 : read);
            }
        }
        SoldStops s = Due.page(10, 2, 9, 9);
        s.put(0, 2);
        s.readOut();
        s.readOut();
        s.readOut();
        D.row("the last reading still gives", new long[] {s.readOut(), s.of(0, 1), s.readOut()}, 2, -1, 1);
        s.purse(99);
        s.buy(0, 2);
        D.due("one bought again was not read", s.of(0, 2), 0);
    }

    private static void week() {
        SoldStops s = new SoldStops();
        D.row("week", new long[] {s.week(1), s.week(20), s.week(0), s.week(21), s.week(-1), s.count(5)},
            1, 21, -2, -2, -2, 21);
        D.row("weeks together", new long[] {s.count(7), s.undo(), s.count(5), s.undo(), s.count(5)}, 2, 0, 1, 0, 0);
    }

    private static void undo() {
        SoldStops s = Due.page(10, 2, 5, 5);
        s.put(1, 2);
        s.purse(30);
        s.buy(0, 1);
        s.readOut();
        s.week(3);
        s.sell(0);
        D.row("before", new long[] {s.count(4), s.count(5), s.count(7), s.of(0, 1), s.of(1, 2)}, 27, 3, 4, -1, 1);
        D.row("undo sell", new long[] {s.undo(), s.of(0, 1), s.of(0, 2), s.count(5)}, 24, 1, 1, 3);
        D.row("undo week", new long[] {s.undo(), s.count(5), s.of(0, 2)}, 24, 0, 1);
        D.row("undo readOut", new long[] {s.undo(), s.of(0, 2), s.of(1, 2), s.of(1, 1)}, 24, 0, 0, 2);
        D.row("undo buy", new long[] {s.undo(), s.of(0, 1), s.of(1, 1)}, 30, -1, 2);
        D.row("undo none", new long[] {s.undo(), s.status(1), s.count(7)}, -3, 1, 0);
        for (int i = 1; i <= 10; i++) {
            s.week(1);
        }
        D.due("8 at most", s.count(7), 8);
        for (int i = 9; i >= 2; i--) {
            s.undo();
            D.due("week behind undo", s.count(5), i);
        }
        D.due("the oldest are forgotten", s.undo(), -3);
    }

    private static void whatMayBeUndone() {
        SoldStops s = Due.page(10, 2, 5);
        s.week(1);
        D.row("refused calls undo nothing", new long[] {s.word(0), s.put(0, 6), s.put(1, 0), s.page(0, 0), s.count(7)},
            -2, -10, -10, -2, 1);
        s.breath(9);
        s.price(3);
        s.purse(4);
        s.heard(0);
        D.row("settings stay", new long[] {s.count(7), s.undo(), s.count(2), s.count(3), s.count(6)}, 1, 0, 9, 3, 1);
        s.week(1);
        s.word(1);
        D.row("behind a piece", new long[] {s.count(7), s.undo()}, 0, -3);
        s.week(1);
        s.put(0, 0);
        D.row("behind a mark put", new long[] {s.count(7), s.undo()}, 0, -3);
        s.week(1);
        s.page(10, 2);
        D.row("behind a page", new long[] {s.count(7), s.undo(), s.count(5)}, 0, -3, 0);
    }

    private static void of() {
        SoldStops s = Due.page(10, 2, 5, 7);
        s.put(1, 5);
        s.readOut();
        D.row("of none", new long[] {s.of(0, 0), s.of(0, 1), s.of(0, 2), s.of(0, 3)}, 5, -1, 0, 0);
        D.row("of a colon", new long[] {s.of(1, 0), s.of(1, 1), s.of(1, 2), s.of(1, 3)}, 7, 5, 0, 6);
        D.row("of, bad", new long[] {s.of(2, 0), s.of(-1, 0), s.of(0, 4), s.of(0, -1), s.status(0)},
            -10, -10, -10, -10, 4);
    }

    private static void costs() {
        SoldStops s = new SoldStops();
        long[][] due = {{5, 15, 15, 30, 6, 12}, {5, 15, 10, 31, 6, 12}, {5, 15, 15, 32, 6, 12}, {5, 15, 10, 33, 6, 12},
            {5, 15, 15, 30, 6, 12}};
        s.price(5);
        for (int week = 0; week < 5; week++) {
            long[] got = new long[6];
            for (int kind = 0; kind < 6; kind++) {
                got[kind] = s.costs(kind);
            }
            D.row("costs in week " + week, got, due[week]);
            s.week(1);
        }
        D.row("costs, bad", new long[] {s.costs(-1), s.costs(6), s.status(0)}, -2, -2, 2);
    }

    private static void gives() {
        SoldStops s = new SoldStops();
        s.breath(15);
        long[][] due = {{3, 15, 15, 15, 6, 7}, {7, 15, 15, 15, 10, 10}, {15, 15, 15, 15, 15, 15}};
        int[] left = {0, 4, 15};
        for (int k = 0; k < 3; k++) {
            long[] got = new long[6];
            for (int kind = 0; kind < 6; kind++) {
                got[kind] = s.gives(kind, left[k]);
            }
            D.row("gives to " + left[k], got, due[k]);
        }
        D.row("gives, bad", new long[] {s.gives(-1, 0), s.gives(6, 0), s.gives(0, -1), s.gives(0, 16), s.status(0)},
            -2, -2, -2, -2, 4);
        s.breath(30);
        D.row("half of breath", new long[] {s.gives(5, 8), s.gives(5, 9), s.gives(5, 10)}, 15, 15, 16);
        s.breath(2);
        D.row("little breath", new long[] {s.gives(0, 0), s.gives(4, 0), s.gives(5, 0)}, 2, 2, 2);
    }
}
