import java.util.Random;

/** Long runs of calls by fixed seeds: the class must answer as the document told a second time. */
public final class OracleTest {
    private static final Due D = new Due("OracleTest");
    private static final int RUNS = 600, CALLS = 512, OPS = 34;
    private static final String[] WORDS = {"page", "word", "mark", ";", " ", "1", "2", "10", "9", "0", "x", "100", "\n"};

    private final SoldStops s = new SoldStops();
    private final Oracle o = new Oracle();
    private final Random random;
    private final int mostWords;

    private OracleTest(int seed) {
        random = new Random(seed);
        mostWords = seed % 3 == 0 ? 14 : seed % 3 == 1 ? 5 : 7;
    }

    public static void main(String[] args) {
        for (int seed = 0; seed < RUNS; seed++) {
            new OracleTest(seed).run(seed);
        }
        D.end();
    }

    private void run(int seed) {
        for (int call = 0; call < CALLS; call++) {
            int op = random.nextInt(OPS);
            String where = "run " + seed + ", call " + call + ", op " + op;
            answer(where, op);
            D.due(where + ", digest", s.digest(), o.digest());
        }
    }

    /** Mostly within the bounds, at times at them, beyond them or far from them. */
    private int number(int least, int most) {
        int way = random.nextInt(16);
        if (way == 0) {
            return new int[] {least - 1, most + 1, least - 2, -10, Integer.MAX_VALUE, Integer.MIN_VALUE}[random.nextInt(6)];
        }
        return way == 1 ? least : way == 2 ? most : least + random.nextInt(most - least + 1);
    }

    private int piece() {
        return number(0, Math.max(o.pieces() - 1, 0));
    }

    private int rare(int n) {
        return random.nextInt(n);
    }

    private void answer(String where, int op) {
        int a = 0;
        int b = 0;
        switch (op) {
            case 0:
                if (rare(3) == 0) {
                    a = number(1, 30);
                    b = number(1, 9);
                    D.due(where, s.page(a, b), o.page(a, b));
                }
                break;
            case 1:
            case 2:
                a = o.pieces() < mostWords ? number(1, 9) : 0;
                D.due(where, s.word(a), o.word(a));
                break;
            case 3:
                a = number(1, 30);
                D.due(where, s.breath(a), o.breath(a));
                break;
            case 4:
                a = number(1, 9);
                D.due(where, s.price(a), o.price(a));
                break;
            case 5:
                a = rare(2) == 0 ? number(0, 999) : number(0, 40);
                D.due(where, s.purse(a), o.purse(a));
                break;
            case 6:
                a = piece();
                b = number(0, 5);
                D.due(where, s.put(a, b), o.put(a, b));
                break;
            case 7:
                text(where);
                break;
            case 8:
                D.due(where, s.clear(), o.clear());
                break;
            case 9:
                D.due(where, s.read(), o.read());
                break;
            case 10:
            case 11:
                a = piece();
                b = number(0, 5);
                D.due(where, s.buy(a, b), o.buy(a, b));
                break;
            case 12:
                a = piece();
                D.due(where, s.sell(a), o.sell(a));
                break;
            case 13:
            case 14:
                D.due(where, s.readOut(), o.readOut());
                break;
            case 15:
                a = number(1, 20);
                D.due(where, s.week(a), o.week(a));
                break;
            case 16:
                for (int k = rare(4); k >= 0; k--) {
                    D.due(where, s.undo(), o.undo());
                }
                break;
            default:
                question(where, op);
        }
    }

    private void text(String where) {
        boolean whole = rare(3) > 0;
        if (whole) {
            D.due(where + ", clear", s.clear(), o.clear());
            type("page " + rare(40) + " " + (rare(9) + 1) + ";");
        }
        for (int k = rare(12); k > 0; k--) {
            boolean item = rare(20) > 0;
            String mark = "mark " + rare(4) + " " + rare(6) + ";";
            type(!item ? WORDS[rare(WORDS.length)] : rare(2) == 0 ? "word " + rare(9) + ";" : mark);
        }
        int odd = number(0, 127);
        if (rare(8) == 0) {
            D.due(where + ", type", s.type(odd), o.type(odd));
        }
        if (whole) {
            D.due(where + ", read", s.read(), o.read());
        }
    }

    private void type(String text) {
        for (int i = 0; i < text.length(); i++) {
            D.due("type", s.type(text.charAt(i)), o.type(text.charAt(i)));
        }
    }

    private void question(String where, int op) {
        int a = 0;
        int b = 0;
        int c = 0;
        switch (op) {
            case 17:
                a = piece();
                b = number(0, 3);
                D.due(where, s.of(a, b), o.of(a, b));
                break;
            case 18:
                a = number(0, 5);
                D.due(where, s.costs(a), o.costs(a));
                break;
            case 19:
                a = number(0, 5);
                b = number(0, 30);
                D.due(where, s.gives(a, b), o.gives(a, b));
                break;
            case 20:
                D.due(where, s.stuck(), o.stuck());
                break;
            case 21:
                a = number(0, 3);
                D.due(where, s.sentences(a), o.sentences(a));
                break;
            case 22:
            case 23:
                if (o.free() <= 5) {
                    a = rare(2) == 0 ? number(1, 30) : number(5, 12);
                    b = number(0, 1);
                    c = rare(2) == 0 ? -1 : piece();
                    D.due(where, s.cheapest(a, b, c), o.cheapest(a, b, c));
                }
                break;
            case 24:
                if (o.free() <= 5) {
                    a = rare(2) == 0 ? number(0, 999) : number(0, 30);
                    D.due(where, s.reach(a), o.reach(a));
                }
                break;
            case 25:
                a = rare(2) == 0 ? -1 : piece();
                D.due(where, s.order(a), o.order(a));
                break;
            default:
                hearsay(where, op);
        }
    }

    private void hearsay(String where, int op) {
        int a = 0;
        int b = 0;
        switch (op) {
            case 26:
                a = rare(3) == 0 ? -1 : piece();
                D.due(where, s.heard(a), o.heard(a));
                break;
            case 27:
                D.due(where, s.forget(), o.forget());
                break;
            case 28:
                D.due(where, s.breaths(), o.breaths());
                D.due(where + ", shorter", s.shorter(), o.shorter());
                break;
            case 29:
                bid(where);
                break;
            case 30:
                if (o.pieces() < 9 || rare(4) == 0) {
                    a = number(0, 10);
                    D.due(where, s.odds(a), o.odds(a));
                }
                break;
            case 31:
                a = number(0, 999999);
                b = number(0, 60);
                D.due(where, s.drawn(a, b), o.drawn(a, b));
                break;
            case 32:
                a = number(0, 1);
                b = rare(2);
                D.due(where, b == 0 ? s.image(a) : s.from(a), b == 0 ? o.image(a) : o.from(a));
                break;
            default:
                a = number(0, 8);
                D.due(where, s.count(a), o.count(a));
                D.due(where + ", status", s.status(a), o.status(a));
                D.due(where + ", part", s.part(a), o.part(a));
        }
    }

    private void bid(String where) {
        int[] a = {number(0, 5), number(0, 20), number(0, 20), number(0, 20), number(0, 20), number(0, 1)};
        D.due(where, s.bid(a[0], a[1], a[2], a[3], a[4], a[5]), o.bid(a[0], a[1], a[2], a[3], a[4], a[5]));
    }
}
