/** Promises 11 to 18 at their edges: each function breaks where the sentence above it is broken. */
public final class EdgeMarksTest {
    private static final Due D = new Due("EdgeMarksTest");

    public static void main(String[] args) {
        buyPlaces();
        buyKinds();
        buyWhereOneIs();
        buyWithTheWholePurse();
        buyIsReadAnew();
        buyByTheWeek();
        sellPlaces();
        sellNone();
        sellForHalfCut();
        sellByTheWeek();
        sellIntoAFullPurse();
        readingOfNone();
        readingToTheLastBreath();
        readingStuckAtFirst();
        readingStuckLeavesTheRest();
        readingToTheEnd();
        readingGivesMore();
        goneBehindItsTime();
        neverGone();
        goneGivesOnceMore();
        goneCountsFromAnew();
        weekBounds();
        weeksGoOn();
        weeksAreUndoneTogether();
        undoNone();
        undoEightAtMost();
        undoTheLastFirst();
        undoMarks();
        undoBringsBackWhatWasGone();
        undoThePurse();
        undoLeavesTheRest();
        undoIsNotUndone();
        undoOfNothingDone();
        refusedIsNotUndone();
        ofPlaces();
        ofWhat();
        ofNone();
        costsBounds();
        costsByTheWeek();
        costsByThePrice();
        costsOfLateWeeks();
        givesKinds();
        givesHowMuchAhead();
        givesBreathAtMost();
        givesHalfAtLeast();
        D.end();
    }

    /** "PIECES 0 .. 11": BAD. */
    private static void buyPlaces() {
        SoldStops s = new SoldStops();
        s.purse(999);
        D.row("buy on none", new long[] {s.buy(0, 0), s.buy(-1, 0)}, -2, -2);
        for (int i = 0; i < 12; i++) {
            s.word(1);
        }
        D.row("buy on 12", new long[] {s.buy(12, 0), s.buy(-1, 0), s.buy(11, 0), s.buy(0, 0)}, -2, -2, 2, 2);
        D.row("status", new long[] {s.status(0), s.status(1), s.status(2), s.count(4)}, 4, 0, 0, 995);
    }

    /** "0 COMMA .. 5 COLON": BAD. */
    private static void buyKinds() {
        SoldStops s = Due.page(9, 2, 1, 1);
        s.purse(999);
        D.row("kinds", new long[] {s.buy(0, -1), s.buy(0, 6), s.count(4), s.buy(0, 0), s.buy(1, 5), s.count(4)},
            -2, -2, 999, 2, 6, 991);
    }

    /** "NO: there is one": BAD goes ahead of it. */
    private static void buyWhereOneIs() {
        SoldStops s = Due.page(9, 2, 1);
        s.purse(999);
        s.put(0, 4);
        D.row("there is one", new long[] {s.buy(0, 4), s.buy(0, 0), s.buy(0, 6), s.of(0, 1), s.count(4), s.count(7)},
            -3, -3, -2, 4, 999, 0);
        D.row("status", new long[] {s.status(0), s.status(1), s.status(2)}, 1, 2, 0);
    }

    /** "NO: .. the PURSE has less": one less, and just enough. */
    private static void buyWithTheWholePurse() {
        for (int kind = 0; kind < 6; kind++) {
            SoldStops s = Due.page(9, 9, 1);
            s.week(3);
            int cost = s.costs(kind);
            s.purse(cost - 1);
            D.row("one less for kind " + kind, new long[] {s.buy(0, kind), s.of(0, 1), s.count(4), s.status(1)},
                -3, -1, cost - 1, 1);
            s.purse(cost);
            D.row("just enough for kind " + kind, new long[] {s.buy(0, kind), s.of(0, 1), s.count(4)}, cost, kind, 0);
        }
        SoldStops empty = Due.page(9, 1, 1);
        D.row("an empty purse", new long[] {empty.buy(0, 0), empty.count(4)}, -3, 0);
    }

    /** A MARK that is bought was READ 0 times, though one that stood there was READ. */
    private static void buyIsReadAnew() {
        SoldStops s = Due.page(9, 1, 1);
        s.purse(9);
        s.put(0, 0);
        s.readOut();
        s.sell(0);
        D.row("bought anew", new long[] {s.of(0, 2), s.buy(0, 0), s.of(0, 2)}, 0, 1, 0);
    }

    /** "cost by weeks": what it COSTS in the week that is. */
    private static void buyByTheWeek() {
        SoldStops s = Due.page(9, 5, 1, 1, 1, 1);
        s.purse(99);
        D.row("bought in week 0", new long[] {s.buy(0, 2), s.buy(1, 3), s.count(4)}, 15, 30, 54);
        s.week(1);
        D.row("bought in week 1", new long[] {s.buy(2, 2), s.buy(3, 3), s.count(4)}, 10, 31, 13);
    }

    /** "PIECES 0 .. 11": BAD. */
    private static void sellPlaces() {
        SoldStops s = new SoldStops();
        D.row("sell on none", new long[] {s.sell(0), s.sell(-1)}, -2, -2);
        s = Due.full();
        s.purse(0);
        D.row("sell on 12", new long[] {s.sell(12), s.sell(-1), s.sell(11), s.sell(0), s.count(4)}, -2, -2, 3, 3, 6);
    }

    /** "NO: there is none": sold twice, too. */
    private static void sellNone() {
        SoldStops s = Due.page(9, 2, 1);
        D.row("there is none", new long[] {s.sell(0), s.count(7), s.status(1)}, -3, 0, 1);
        s.put(0, 0);
        D.row("sold twice", new long[] {s.sell(0), s.sell(0), s.count(4), s.count(7), s.status(1)}, 1, -3, 1, 1, 2);
    }

    /** "half of what it COSTS (cut)": 1 for 2, 1 for 3, 0 for 1. */
    private static void sellForHalfCut() {
        long[] halves = {0, 1, 1, 2, 2, 3, 3, 4, 4};
        for (int price = 1; price <= 9; price++) {
            SoldStops s = Due.page(9, price, 1);
            s.put(0, 0);
            D.row("half of " + price, new long[] {s.sell(0), s.count(4), s.of(0, 1)}, halves[price - 1], halves[price - 1], -1);
        }
    }

    /** What it COSTS now, not what it was bought for. */
    private static void sellByTheWeek() {
        SoldStops s = Due.page(9, 5, 1, 1);
        s.purse(99);
        s.buy(0, 2);
        s.buy(1, 3);
        s.week(3);
        D.row("sold in week 3", new long[] {s.sell(0), s.sell(1), s.count(4)}, 5, 16, 75);
    }

    /** "PURSE 999 at most": at it, one below, far enough below. */
    private static void sellIntoAFullPurse() {
        int[] before = {999, 998, 996, 995};
        int[] behind = {999, 999, 999, 998};
        for (int i = 0; i < 4; i++) {
            SoldStops s = Due.page(9, 2, 1);
            s.put(0, 1);
            s.purse(before[i]);
            D.row("sold into " + before[i], new long[] {s.sell(0), s.count(4), s.undo()}, 3, behind[i], before[i]);
        }
    }

    /** A READING of no PIECES says none, and is a text READ. */
    private static void readingOfNone() {
        SoldStops s = new SoldStops();
        D.row("readOut() of none", new long[] {s.readOut(), s.count(7), s.undo()}, 0, 1, 0);
    }

    /** "STUCK at the first that is longer than what is left": as long is not longer. */
    private static void readingToTheLastBreath() {
        D.due("as long", Due.page(9, 2, 4, 5).readOut(), 2);
        D.due("one longer", Due.page(9, 2, 4, 6).readOut(), 1);
        D.due("as long, at first", Due.page(9, 2, 9).readOut(), 1);
        D.due("nothing is left", Due.page(9, 2, 9, 1).readOut(), 1);
        SoldStops s = Due.page(1, 2, 1, 1);
        s.put(0, 1);
        D.due("breath 1", s.readOut(), 2);
    }

    /** None is said: no MARK is READ. */
    private static void readingStuckAtFirst() {
        SoldStops s = Due.page(8, 2, 9, 1);
        s.put(0, 1);
        s.put(1, 1);
        D.row("stuck at first", new long[] {s.readOut(), s.of(0, 2), s.of(1, 2), s.count(7)}, 0, 0, 0, 1);
    }

    /** "Behind each PIECE that was said its MARK is READ": not behind the one at which one is STUCK. */
    private static void readingStuckLeavesTheRest() {
        SoldStops s = Due.page(9, 2, 1, 9, 1);
        s.put(0, 0);
        s.put(1, 1);
        s.put(2, 1);
        s.breath(8);
        D.row("stuck", new long[] {s.readOut(), s.of(0, 2), s.of(1, 2), s.of(2, 2)}, 1, 1, 0, 0);
    }

    /** The last one's MARK is READ, too. */
    private static void readingToTheEnd() {
        SoldStops s = Due.full();
        D.row("all 12", new long[] {s.readOut(), s.of(0, 2), s.of(10, 2), s.of(11, 2)}, 12, 1, 1, 1);
    }

    /** "it gives as told": BREATH at most, so no more than at first. */
    private static void readingGivesMore() {
        SoldStops s = Due.page(5, 2, 1, 5, 1);
        s.put(0, 0);
        D.due("a comma gives breath at most", s.readOut(), 2);
        s.put(1, 0);
        D.due("a comma gives 3", s.readOut(), 3);
    }

    /** "after how many times READ it is gone": 9, 4, 5, 5; not one ahead. */
    private static void goneBehindItsTime() {
        int[] kinds = {0, 2, 4, 5};
        int[] times = {9, 4, 5, 5};
        for (int k = 0; k < 4; k++) {
            SoldStops s = Due.page(9, 2, 1);
            s.put(0, kinds[k]);
            for (int read = 1; read < times[k]; read++) {
                s.readOut();
            }
            D.row("one ahead, kind " + kinds[k], new long[] {s.of(0, 1), s.of(0, 2), s.count(1)}, kinds[k], times[k] - 1, 1);
            s.readOut();
            D.row("gone, kind " + kinds[k], new long[] {s.of(0, 1), s.of(0, 2), s.of(0, 3), s.count(1)}, -1, 0, 0, 0);
        }
    }

    /** "(0: never)". */
    private static void neverGone() {
        for (int kind = 1; kind <= 3; kind += 2) {
            SoldStops s = Due.page(9, 2, 1);
            s.put(0, kind);
            for (int read = 1; read <= 300; read++) {
                s.readOut();
            }
            D.row("never gone, kind " + kind, new long[] {s.of(0, 1), s.of(0, 2)}, kind, 300);
        }
    }

    /** "it gives as told, is READ once more; one READ as often as told is gone then". */
    private static void goneGivesOnceMore() {
        SoldStops s = Due.page(9, 2, 9, 9);
        s.put(0, 2);
        for (int read = 1; read <= 4; read++) {
            D.due("reading " + read, s.readOut(), 2);
        }
        D.row("reading 5", new long[] {s.readOut(), s.stuck()}, 1, 1);
    }

    /** One that was put or bought anew dries out as a new one. */
    private static void goneCountsFromAnew() {
        SoldStops s = Due.page(9, 2, 1);
        s.put(0, 2);
        s.readOut();
        s.readOut();
        s.readOut();
        s.put(0, 2);
        s.readOut();
        D.row("one put anew", new long[] {s.of(0, 1), s.of(0, 2)}, 2, 1);
    }

    /** "n WEEKS (1 .. 20)": BAD. */
    private static void weekBounds() {
        SoldStops s = new SoldStops();
        D.row("week", new long[] {s.week(0), s.week(21), s.week(-1), s.count(5), s.count(7), s.week(1), s.week(20)},
            -2, -2, -2, 0, 0, 1, 21);
    }

    /** No bound is told for the WEEK: as many as the calls allow. */
    private static void weeksGoOn() {
        SoldStops s = new SoldStops();
        for (int n = 1; n <= 500; n++) {
            D.due("week(20), time " + n, s.week(20), 20 * n);
        }
        s.week(3);
        D.row("week 10003", new long[] {s.count(5), s.costs(2), s.costs(3)}, 10003, 4, 15);
    }

    /** "(together one that may be undone)". */
    private static void weeksAreUndoneTogether() {
        SoldStops s = new SoldStops();
        s.week(20);
        D.row("20 weeks", new long[] {s.count(7), s.undo(), s.count(5), s.undo()}, 1, 0, 0, -3);
    }

    /** "NO: none may be": at first, behind the last one. */
    private static void undoNone() {
        SoldStops s = new SoldStops();
        D.row("none at first", new long[] {s.undo(), s.status(1)}, -3, 1);
        s.week(1);
        D.row("none behind the last one", new long[] {s.undo(), s.undo(), s.status(1), s.count(7)}, 0, -3, 2, 0);
    }

    /** "8 at most": of nine the oldest can not be undone. */
    private static void undoEightAtMost() {
        SoldStops s = new SoldStops();
        for (int n = 1; n <= 9; n++) {
            s.week(n);
            D.due("count(7) behind " + n, s.count(7), Math.min(n, 8));
        }
        for (int n = 8; n >= 1; n--) {
            s.undo();
            D.due("weeks left", s.count(5), (n * (n + 1)) / 2);
            D.due("that may be undone", s.count(7), n - 1);
        }
        D.row("not the first", new long[] {s.undo(), s.count(5)}, -3, 1);
        s.week(5);
        D.row("again", new long[] {s.count(7), s.undo(), s.count(5)}, 1, 0, 1);
    }

    /** "as ahead of the last": of each of the four. */
    private static void undoTheLastFirst() {
        SoldStops s = Due.page(9, 2, 1, 1);
        s.purse(50);
        s.buy(0, 0);
        s.week(2);
        s.readOut();
        s.sell(0);
        D.row("sold", new long[] {s.of(0, 1), s.count(4), s.count(7)}, -1, 49, 4);
        D.row("not sold", new long[] {s.undo(), s.of(0, 1), s.of(0, 2), s.count(5)}, 48, 0, 1, 2);
        D.row("not read", new long[] {s.undo(), s.of(0, 1), s.of(0, 2), s.count(5)}, 48, 0, 0, 2);
        D.row("no week", new long[] {s.undo(), s.of(0, 1), s.of(0, 2), s.count(5)}, 48, 0, 0, 0);
        D.row("not bought", new long[] {s.undo(), s.of(0, 1), s.of(0, 2), s.count(5)}, 50, -1, 0, 0);
    }

    /** "MARKS .. as ahead": all 12, their kinds and how often READ. */
    private static void undoMarks() {
        SoldStops s = Due.full();
        long before = s.digest();
        s.readOut();
        s.undo();
        s.week(1);
        D.due("digest() behind a reading undone and a week", s.digest() == before ? 1 : 0, 0);
        s.undo();
        for (int i = 0; i < 12; i++) {
            D.row("mark " + i, new long[] {s.of(i, 1), s.of(i, 2)}, 1, 0);
        }
        D.row("the rest", new long[] {s.count(1), s.count(4), s.count(7)}, 12, 999, 7);
    }

    /** A MARK that dried out is there again, READ as often as ahead of it. */
    private static void undoBringsBackWhatWasGone() {
        SoldStops s = Due.page(9, 2, 1);
        s.put(0, 2);
        for (int read = 1; read <= 4; read++) {
            s.readOut();
        }
        D.row("gone", new long[] {s.of(0, 1), s.undo(), s.of(0, 1), s.of(0, 2)}, -1, 0, 2, 3);
    }

    /** "the PURSE .. as ahead": what was told of it since is no more; the answer is "the PURSE then". */
    private static void undoThePurse() {
        SoldStops s = new SoldStops();
        s.purse(999);
        s.week(1);
        s.purse(5);
        D.row("the purse as ahead", new long[] {s.undo(), s.count(4)}, 999, 999);
        s.purse(0);
        s.week(1);
        s.purse(7);
        D.row("an empty one, too", new long[] {s.undo(), s.count(4)}, 0, 0);
    }

    /** MARKS, the PURSE, the WEEK alone: not BREATH, the PRICE, HEARD, THE TEXT, THE FRACTION. */
    private static void undoLeavesTheRest() {
        SoldStops s = Due.page(9, 2, 1);
        s.week(1);
        s.breath(5);
        s.price(4);
        s.heard(0);
        s.type('a');
        s.odds(0);
        s.undo();
        D.row("the rest", new long[] {s.count(0), s.count(2), s.count(3), s.count(6), s.count(8), s.part(0)}, 1, 5, 4, 1, 1, 1);
    }

    /** An UNDO is none of those that may be undone. */
    private static void undoIsNotUndone() {
        SoldStops s = new SoldStops();
        s.week(1);
        s.week(2);
        s.undo();
        D.row("undone", new long[] {s.count(7), s.count(5), s.undo(), s.count(5), s.undo()}, 1, 1, 0, 0, -3);
    }

    /** A text READ may be undone, though nothing was said and no MARK was READ. */
    private static void undoOfNothingDone() {
        SoldStops s = Due.page(1, 2, 9);
        s.week(1);
        s.readOut();
        D.row("a reading of nothing", new long[] {s.count(7), s.undo(), s.count(5), s.undo(), s.count(5)}, 2, 0, 1, 0, 0);
    }

    /** What was refused changed nothing: it can not be undone. */
    private static void refusedIsNotUndone() {
        SoldStops s = Due.page(9, 2, 1);
        s.buy(0, 0);
        s.buy(1, 0);
        s.sell(0);
        s.sell(1);
        s.week(0);
        s.undo();
        D.due("nothing to undo", s.count(7), 0);
    }

    /** "BAD: -10": a piece that is not there. */
    private static void ofPlaces() {
        SoldStops s = new SoldStops();
        D.row("of none", new long[] {s.of(0, 0), s.of(-1, 0)}, -10, -10);
        s = Due.full();
        D.row("of 12", new long[] {s.of(12, 0), s.of(-1, 0), s.of(0, 0), s.of(11, 0)}, -10, -10, 1, 3);
    }

    /** "BAD: -10": another what. */
    private static void ofWhat() {
        SoldStops s = Due.page(9, 2, 7);
        D.row("of what", new long[] {s.of(0, -1), s.of(0, 4), s.of(0, 0), s.of(0, 3), s.status(0)}, -10, -10, 7, 0, 2);
    }

    /** "(1; NONE)", "(2; 0)", "(3; 0)": where there is no MARK. */
    private static void ofNone() {
        SoldStops s = Due.page(9, 2, 7);
        D.row("no mark", new long[] {s.of(0, 1), s.of(0, 2), s.of(0, 3)}, -1, 0, 0);
        s.readOut();
        D.row("none is read", new long[] {s.of(0, 1), s.of(0, 2), s.of(0, 3)}, -1, 0, 0);
        s.put(0, 4);
        s.readOut();
        s.price(9);
        D.row("what it costs now", new long[] {s.of(0, 1), s.of(0, 2), s.of(0, 3)}, 4, 1, 10);
    }

    /** "0 COMMA .. 5 COLON": BAD. */
    private static void costsBounds() {
        SoldStops s = new SoldStops();
        D.row("costs", new long[] {s.costs(-1), s.costs(6), s.costs(0), s.costs(5), s.status(0)}, -2, -2, 2, 6, 2);
    }

    /** "the PRICE less in WEEKS of an odd number", "w by 4 left over more". */
    private static void costsByTheWeek() {
        SoldStops s = new SoldStops();
        s.price(9);
        for (int week = 0; week < 9; week++) {
            D.row("week " + week, new long[] {s.costs(0), s.costs(1), s.costs(2), s.costs(3), s.costs(4), s.costs(5)},
                9, 27, week % 2 == 1 ? 18 : 27, 54 + week % 4, 10, 20);
            s.week(1);
        }
    }

    /** The least PRICE and the greatest. */
    private static void costsByThePrice() {
        SoldStops s = new SoldStops();
        s.week(1);
        s.price(1);
        D.row("price 1", new long[] {s.costs(0), s.costs(1), s.costs(2), s.costs(3), s.costs(4), s.costs(5)}, 1, 3, 2, 7, 2, 4);
        s.price(9);
        D.row("price 9", new long[] {s.costs(0), s.costs(1), s.costs(2), s.costs(3), s.costs(4), s.costs(5)},
            9, 27, 18, 55, 10, 20);
    }

    /** Late weeks count as early ones. */
    private static void costsOfLateWeeks() {
        SoldStops s = new SoldStops();
        for (int n = 0; n < 20; n++) {
            s.week(20);
        }
        D.row("week 400", new long[] {s.costs(2), s.costs(3)}, 6, 12);
        s.week(3);
        D.row("week 403", new long[] {s.costs(2), s.costs(3)}, 4, 15);
    }

    /** "0 COMMA .. 5 COLON": BAD. */
    private static void givesKinds() {
        SoldStops s = new SoldStops();
        D.row("gives", new long[] {s.gives(-1, 5), s.gives(6, 5), s.gives(0, 5), s.gives(5, 5), s.status(0)}, -2, -2, 8, 10, 2);
    }

    /** "h (0 .. BREATH)": as BREATH is now; BAD. */
    private static void givesHowMuchAhead() {
        SoldStops s = new SoldStops();
        D.row("of 10", new long[] {s.gives(0, -1), s.gives(0, 11), s.gives(0, 0), s.gives(0, 10)}, -2, -2, 3, 10);
        s.breath(30);
        D.row("of 30", new long[] {s.gives(0, 31), s.gives(0, 30), s.gives(0, 11)}, -2, 30, 14);
        s.breath(1);
        D.row("of 1", new long[] {s.gives(0, 2), s.gives(0, 1), s.gives(0, 0), s.gives(5, 0), s.gives(1, 0)}, -2, 1, 1, 1, 1);
    }

    /** "h and 3, BREATH at most", "as COMMA behind COMMA". */
    private static void givesBreathAtMost() {
        SoldStops s = new SoldStops();
        D.row("a comma", new long[] {s.gives(0, 6), s.gives(0, 7), s.gives(0, 8), s.gives(0, 9)}, 9, 10, 10, 10);
        D.row("a dash", new long[] {s.gives(4, 3), s.gives(4, 4), s.gives(4, 5), s.gives(4, 9)}, 9, 10, 10, 10);
        D.row("a colon", new long[] {s.gives(5, 3), s.gives(5, 4), s.gives(5, 5), s.gives(5, 9)}, 9, 10, 10, 10);
        D.row("all of it", new long[] {s.gives(1, 0), s.gives(2, 0), s.gives(3, 0), s.gives(1, 10)}, 10, 10, 10, 10);
    }

    /** "half of BREATH (cut) at least". */
    private static void givesHalfAtLeast() {
        SoldStops s = new SoldStops();
        s.breath(20);
        D.row("half of 20", new long[] {s.gives(5, 0), s.gives(5, 3), s.gives(5, 4), s.gives(5, 5)}, 10, 10, 10, 11);
        s.breath(21);
        D.row("half of 21", new long[] {s.gives(5, 0), s.gives(5, 4), s.gives(5, 5)}, 10, 10, 11);
        s.breath(13);
        D.row("half of 13", new long[] {s.gives(5, 0), s.gives(4, 0), s.gives(5, 1)}, 6, 6, 7);
        s.breath(15);
        D.row("half of 15", new long[] {s.gives(5, 0), s.gives(4, 0), s.gives(5, 1), s.gives(5, 2)}, 7, 6, 7, 8);
    }
}
