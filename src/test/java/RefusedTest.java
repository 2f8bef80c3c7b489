import java.util.ArrayList;
import java.util.List;
import java.util.function.Supplier;

/**
 * "Refused, changing nothing but STATUS", "(What is below changes nothing.)": every call that is refused, and
 * every question, on a new object, an ordinary one and a full one, against a twin that was not asked.
 */
public final class RefusedTest {
    private static final Due D = new Due("RefusedTest");
    private static final int BAD = 0, NO = 1, FULL = 2, NONE = -1;
    /** Stands in a call's bounds for the number of the last piece. */
    private static final int LAST = Integer.MAX_VALUE - 1;

    private interface Call {
        long ask(SoldStops s, int[] a);
    }

    public static void main(String[] args) {
        List<Supplier<SoldStops>> states = List.of(SoldStops::new, RefusedTest::ordinary, Due::full, RefusedTest::overfull);
        for (Supplier<SoldStops> state : states) {
            badOfAPage(state);
            badOfMarks(state);
            badOfQuestions(state);
            badOfWhatThereIs(state);
            questions(state);
        }
        noAndFull();
        badAheadOfNoAndFull();
        D.end();
    }

    private static SoldStops ordinary() {
        SoldStops s = Due.page(12, 3, 4, 9, 2, 7, 5);
        s.put(0, 4);
        s.put(2, 5);
        s.purse(40);
        s.readOut();
        s.buy(3, 2);
        s.week(3);
        s.heard(3);
        s.image(1);
        s.odds(4);
        Due.type(s, "page 8 1;word 3;mark 0 1;");
        return s;
    }

    /** One less than the cheapest mark costs. */
    private static SoldStops poor() {
        SoldStops s = ordinary();
        s.purse(2);
        return s;
    }

    /** As Due.full(), but the text is one with a fault, the fraction is beyond an int. */
    private static SoldStops overfull() {
        SoldStops s = Due.full();
        s.breath(9);
        s.odds(9);
        s.clear();
        Due.type(s, "page 8 1;word 3;mark 1 1;x");
        return s;
    }

    /** All that can be told of an object, taken apart. */
    private static long[] told(SoldStops s) {
        List<Long> told = new ArrayList<>();
        unwind(s, told);
        for (int i = 0; i < 2; i++) {
            told.add((long) s.from(i));
            unwind(s, told);
        }
        told.add((long) s.read());
        unwind(s, told);
        told.add((long) s.clear());
        return told.stream().mapToLong(n -> n).toArray();
    }

    private static void unwind(SoldStops s, List<Long> told) {
        for (int n = 0; n < 10; n++) {
            told.add(s.digest());
            for (int i = 0; i < s.count(0); i++) {
                told.add((long) s.of(i, 0) * 1000 + s.of(i, 1) * 100 + s.of(i, 2));
            }
            told.add((long) s.breaths());
            told.add((long) s.undo());
        }
    }

    private static long[] statuses(SoldStops s) {
        return new long[] {s.status(0), s.status(1), s.status(2)};
    }

    /** Asks; the answer as due, one more refusal for this reason (NONE: none), all else as the twin has it. */
    private static void due(String call, Supplier<SoldStops> state, Call asked, int[] a, long answer, int reason) {
        SoldStops s = state.get();
        long[] before = statuses(s);
        D.due(call, asked.ask(s, a), answer);
        same(call, state, s, before, reason);
    }

    private static void same(String call, Supplier<SoldStops> state, SoldStops s, long[] before, int reason) {
        long[] want = before.clone();
        if (reason != NONE) {
            want[reason]++;
        }
        D.row(call + ", status", statuses(s), want);
        D.row(call + ", all else", told(s), told(state.get()));
    }

    /** Each number in turn just beyond its bounds and far beyond them, the others within. */
    private static void bad(String name, Supplier<SoldStops> state, long answer, Call asked, int[]... bounds) {
        int last = state.get().count(0) - 1;
        for (int k = 0; k < bounds.length; k++) {
            int most = bounds[k][1] == LAST ? last : bounds[k][1];
            int[] beyond = {bounds[k][0] - 1, bounds[k][0] - 256, bounds[k][0] - 65536, Integer.MIN_VALUE,
                most + 1, most + 256, most + 65536, Integer.MAX_VALUE};
            for (int n : beyond) {
                if (n < bounds[k][0] || n > most) {
                    due(name + " with " + n + " as number " + k, state, asked, within(bounds, k, n), answer, BAD);
                }
            }
        }
    }

    private static int[] within(int[][] bounds, int k, int n) {
        int[] a = new int[bounds.length];
        for (int i = 0; i < a.length; i++) {
            a[i] = i == k ? n : bounds[i][0];
        }
        return a;
    }

    private static int[] to(int least, int most) {
        return new int[] {least, most};
    }

    private static void badOfAPage(Supplier<SoldStops> state) {
        bad("page", state, -2, (s, a) -> s.page(a[0], a[1]), to(1, 30), to(1, 9));
        bad("word", state, -2, (s, a) -> s.word(a[0]), to(1, 9));
        bad("breath", state, -2, (s, a) -> s.breath(a[0]), to(1, 30));
        bad("price", state, -2, (s, a) -> s.price(a[0]), to(1, 9));
        bad("purse", state, -2, (s, a) -> s.purse(a[0]), to(0, 999));
        bad("put", state, -10, (s, a) -> s.put(a[0], a[1]), to(0, LAST), to(0, 5));
        bad("type", state, -2, (s, a) -> s.type(a[0]), to(0, 127));
    }

    private static void badOfMarks(Supplier<SoldStops> state) {
        int breath = state.get().count(2);
        bad("buy", state, -2, (s, a) -> s.buy(a[0], a[1]), to(0, LAST), to(0, 5));
        bad("sell", state, -2, (s, a) -> s.sell(a[0]), to(0, LAST));
        bad("week", state, -2, (s, a) -> s.week(a[0]), to(1, 20));
        bad("of", state, -10, (s, a) -> s.of(a[0], a[1]), to(0, LAST), to(0, 3));
        bad("costs", state, -2, (s, a) -> s.costs(a[0]), to(0, 5));
        bad("gives", state, -2, (s, a) -> s.gives(a[0], a[1]), to(0, 5), to(0, breath));
    }

    private static void badOfQuestions(Supplier<SoldStops> state) {
        bad("sentences", state, -2, (s, a) -> s.sentences(a[0]), to(0, 3));
        bad("cheapest", state, -10, (s, a) -> s.cheapest(a[0], a[1], NONE), to(1, 30), to(0, 1));
        // No i is too large: those beyond the pieces are -5, and no refusal.
        bad("cheapest", state, -10, (s, a) -> s.cheapest(30, 0, a[0]), to(-1, Integer.MAX_VALUE));
        bad("reach", state, -2, (s, a) -> s.reach(a[0]), to(0, 999));
        bad("order", state, -10, (s, a) -> s.order(a[0]), to(-1, Integer.MAX_VALUE));
        bad("heard", state, -2, (s, a) -> s.heard(a[0]), to(-1, LAST));
        bad("bid", state, -10, (s, a) -> s.bid(a[0], a[1], a[2], a[3], a[4], a[5]), to(0, 5), to(0, 20), to(0, 20),
            to(0, 20), to(0, 20), to(0, 1));
        bad("odds", state, -2, (s, a) -> s.odds(a[0]), to(0, 10));
        bad("drawn", state, -2, (s, a) -> s.drawn(a[0], a[1]), to(0, 999999), to(0, 60));
    }

    private static void badOfWhatThereIs(Supplier<SoldStops> state) {
        bad("part", state, -2, (s, a) -> s.part(a[0]), to(0, 1));
        bad("image", state, -2, (s, a) -> s.image(a[0]), to(0, 1));
        bad("from", state, -2, (s, a) -> s.from(a[0]), to(0, 1));
        bad("status", state, -1, (s, a) -> s.status(a[0]), to(0, 2));
        bad("count", state, -2, (s, a) -> s.count(a[0]), to(0, 8));
    }

    private static void no(String call, Supplier<SoldStops> state, Call asked, long answer) {
        due(call, state, asked, new int[0], answer, NO);
    }

    private static void noAndFull() {
        no("undo() of a new one", SoldStops::new, (s, a) -> s.undo(), -3);
        no("from(0) of a new one", SoldStops::new, (s, a) -> s.from(0), -3);
        no("from(1) of a new one", SoldStops::new, (s, a) -> s.from(1), -3);
        no("from(0) where 1 was kept", RefusedTest::ordinary, (s, a) -> s.from(0), -3);
        no("buy where one is", RefusedTest::ordinary, (s, a) -> s.buy(2, 0), -3);
        no("buy for one more than the purse has", RefusedTest::poor, (s, a) -> s.buy(1, 0), -3);
        no("sell where none is", RefusedTest::ordinary, (s, a) -> s.sell(1), -3);
        no("buy where one is, full", Due::full, (s, a) -> s.buy(11, 0), -3);
        no("order(NONE) of 12", Due::full, (s, a) -> s.order(NONE), -20);
        no("order(0) of 12", Due::full, (s, a) -> s.order(0), -20);
        no("order(12) of 12", Due::full, (s, a) -> s.order(12), -20);
        due("word, full", Due::full, (s, a) -> s.word(1), new int[0], -4, FULL);
        due("type, full", Due::full, (s, a) -> s.type(0), new int[0], -4, FULL);
        due("heard, full", Due::full, (s, a) -> s.heard(NONE), new int[0], -4, FULL);
        due("heard of a piece, full", Due::full, (s, a) -> s.heard(11), new int[0], -4, FULL);
    }

    /** "the first of: BAD ..; NO ..; FULL". */
    private static void badAheadOfNoAndFull() {
        int[] none = new int[0];
        due("word", Due::full, (s, a) -> s.word(10), none, -2, BAD);
        due("type", Due::full, (s, a) -> s.type(128), none, -2, BAD);
        due("heard", Due::full, (s, a) -> s.heard(12), none, -2, BAD);
        due("order", Due::full, (s, a) -> s.order(-2), none, -10, BAD);
        due("buy", RefusedTest::ordinary, (s, a) -> s.buy(0, 6), none, -2, BAD);
        due("from", SoldStops::new, (s, a) -> s.from(2), none, -2, BAD);
    }

    private static void question(String call, Supplier<SoldStops> state, Call asked) {
        SoldStops s = state.get();
        long[] before = statuses(s);
        asked.ask(s, new int[0]);
        same(call, state, s, before, NONE);
    }

    private static void questions(Supplier<SoldStops> state) {
        question("stuck", state, (s, a) -> s.stuck());
        question("sentences", state, (s, a) -> s.sentences(0) + s.sentences(1) + s.sentences(2) + s.sentences(3));
        question("cheapest", state, (s, a) -> s.cheapest(12, 0, NONE) + s.cheapest(9, 1, 0) + s.cheapest(30, 1, 12));
        question("reach", state, (s, a) -> s.reach(0) + s.reach(20) + s.reach(999));
        question("order", state, (s, a) -> s.count(0) > 7 ? 0 : s.order(NONE) + s.order(0) + s.order(7));
        question("breaths", state, (s, a) -> s.breaths());
        question("shorter", state, (s, a) -> s.shorter());
        question("bid", state, (s, a) -> s.bid(0, 20, 19, 18, 17, 0) + s.bid(5, 9, 9, 9, 9, 1));
        question("drawn", state, (s, a) -> s.drawn(5, 60));
        question("part", state, (s, a) -> s.part(0) + s.part(1));
        question("status", state, (s, a) -> s.status(0) + s.status(1) + s.status(2));
        question("count", state, (s, a) -> s.count(0) + s.count(8));
        question("digest", state, (s, a) -> s.digest());
        question("costs, gives", state, (s, a) -> s.costs(3) + s.gives(5, 0));
        question("of", state, (s, a) -> s.count(0) == 0 ? 0 : s.of(0, 0) + s.of(0, 1) + s.of(0, 2) + s.of(0, 3));
    }
}
