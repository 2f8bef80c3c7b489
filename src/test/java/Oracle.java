import java.math.BigInteger;
import java.util.ArrayDeque;
import java.util.ArrayList;
import java.util.Arrays;
import java.util.List;
import java.util.regex.Matcher;
import java.util.regex.Pattern;

/**
 * The document told a second time, slowly: every question is answered by trying all that can be.
 * It shares nothing with the class, so that a slip in one shows against the other.
 */
final class Oracle {
    /** One piece and the mark behind it. */
    private record Piece(int length, int kind, int reads) { }

    /** What an undo brings back. */
    private record Past(List<Piece> pieces, int purse, int week) { }

    /** What an image keeps. */
    private record Image(int breath, int price, int purse, int week, List<Piece> pieces,
        List<Integer> heard, List<Past> pasts) { }

    private Image now = fresh(10, 2);
    private final Image[] images = new Image[2];
    private final StringBuilder text = new StringBuilder();
    private BigInteger above = BigInteger.ZERO;
    private BigInteger below = BigInteger.ONE;
    private final int[] refused = new int[3];

    private static Image fresh(int breath, int price) {
        return new Image(breath, price, 0, 0, new ArrayList<>(), new ArrayList<>(), new ArrayList<>());
    }

    private static Image copy(Image i) {
        return new Image(i.breath, i.price, i.purse, i.week, new ArrayList<>(i.pieces),
            new ArrayList<>(i.heard), new ArrayList<>(i.pasts));
    }

    private Image with(int breath, int price, int purse, int week) {
        return new Image(breath, price, purse, week, now.pieces, now.heard, now.pasts);
    }

    private int refuse(int reason, int answer) {
        refused[reason]++;
        return answer;
    }

    private static boolean in(long n, int least, int most) {
        return least <= n && n <= most;
    }

    private boolean isPiece(int word) {
        return in(word, 0, now.pieces.size() - 1);
    }

    // ---- kinds

    static int cost(int kind, int price, int week) {
        return switch (kind) {
            case 0 -> price;
            case 1 -> 3 * cost(0, price, week);
            case 2 -> cost(1, price, week) - (week % 2 == 1 ? price : 0);
            case 3 -> 2 * cost(1, price, week) + week % 4;
            case 4 -> cost(0, price, week) + 1;
            case 5 -> 2 * cost(4, price, week);
            default -> throw new IllegalStateException();
        };
    }

    static int gives(int kind, int h, int breath) {
        return switch (kind) {
            case -1 -> h;
            case 0 -> h + 3 > breath ? breath : h + 3;
            case 1, 2, 3 -> breath;
            case 4 -> gives(0, gives(0, h, breath), breath);
            case 5 -> Math.max(gives(4, h, breath), breath / 2);
            default -> throw new IllegalStateException();
        };
    }

    private static final List<Integer> ENDS = List.of(1, 2, 3, 5);
    private static final int[] LASTS = {9, 0, 4, 0, 5, 5};

    private int cost(int kind) {
        return cost(kind, now.price, now.week);
    }

    /** How many are said: lengths in order, kinds behind their places. */
    static int said(int[] lengths, int[] kinds, int breath) {
        int h = breath;
        int said = 0;
        while (said < lengths.length && lengths[said] <= h) {
            h = gives(kinds[said], h - lengths[said], breath);
            said++;
        }
        return said;
    }

    private int[] lengths() {
        return now.pieces.stream().mapToInt(Piece::length).toArray();
    }

    private int[] kinds() {
        return now.pieces.stream().mapToInt(Piece::kind).toArray();
    }

    // ---- a page

    int page(int breath, int price) {
        if (!in(breath, 1, 30) || !in(price, 1, 9)) {
            return refuse(0, -2);
        }
        int had = now.pieces.size();
        now = fresh(breath, price);
        return had;
    }

    int word(int length) {
        if (!in(length, 1, 9)) {
            return refuse(0, -2);
        }
        if (now.pieces.size() == 12) {
            return refuse(2, -4);
        }
        now.pieces.add(new Piece(length, -1, 0));
        now.pasts.clear();
        return now.pieces.size() - 1;
    }

    int breath(int b) {
        int was = now.breath;
        if (!in(b, 1, 30)) {
            return refuse(0, -2);
        }
        now = with(b, now.price, now.purse, now.week);
        return was;
    }

    int price(int p) {
        int was = now.price;
        if (!in(p, 1, 9)) {
            return refuse(0, -2);
        }
        now = with(now.breath, p, now.purse, now.week);
        return was;
    }

    int purse(int n) {
        int was = now.purse;
        if (!in(n, 0, 999)) {
            return refuse(0, -2);
        }
        now = with(now.breath, now.price, n, now.week);
        return was;
    }

    private int setMark(int word, int kind) {
        Piece p = now.pieces.get(word);
        now.pieces.set(word, new Piece(p.length, kind, 0));
        return p.kind;
    }

    int put(int word, int kind) {
        if (!isPiece(word) || !in(kind, 0, 5)) {
            return refuse(0, -10);
        }
        now.pasts.clear();
        return setMark(word, kind);
    }

    int type(int c) {
        if (!in(c, 0, 127)) {
            return refuse(0, -2);
        }
        if (text.length() == 150) {
            return refuse(2, -4);
        }
        return text.append((char) c).length();
    }

    int clear() {
        int had = text.length();
        text.setLength(0);
        return had;
    }

    private static final Pattern TOKEN = Pattern.compile(" *(?:([a-z]+)|([0-9]+)|(;)|([^ ])|$)");

    int read() {
        List<String> tokens = new ArrayList<>();
        List<Integer> places = new ArrayList<>();
        Matcher m = TOKEN.matcher(text);
        for (int at = 0; at < text.length() && m.find(at); at = m.end()) {
            for (int g = 1; g <= 4; g++) {
                if (m.group(g) != null) {
                    tokens.add(m.group(g));
                    places.add(m.start(g));
                }
            }
        }
        places.add(text.length());
        List<int[]> items = new ArrayList<>();
        int t = 0;
        while (t < tokens.size() || items.isEmpty()) {
            String[] forms = items.isEmpty() ? new String[] {"page # # ;"} : new String[] {"word # ;", "mark # # ;"};
            int furthest = -1;
            for (String form : forms) {
                int fits = fits(tokens, t, form.split(" "));
                furthest = Math.max(furthest, fits);
                if (fits == form.split(" ").length) {
                    items.add(item(tokens, t, fits));
                    t += fits;
                    furthest = Integer.MAX_VALUE;
                    break;
                }
            }
            if (furthest != Integer.MAX_VALUE) {
                return -10 - places.get(t + furthest);
            }
        }
        return tell(items);
    }

    private static int fits(List<String> tokens, int t, String[] form) {
        int k = 0;
        while (k < form.length && t + k < tokens.size()
            && (form[k].equals("#") ? tokens.get(t + k).matches("[0-9]{1,2}") : tokens.get(t + k).equals(form[k]))) {
            k++;
        }
        return k;
    }

    private static int[] item(List<String> tokens, int t, int size) {
        int[] item = new int[size - 1];
        item[0] = tokens.get(t).charAt(0);
        for (int k = 1; k < size - 1; k++) {
            item[k] = Integer.parseInt(tokens.get(t + k));
        }
        return item;
    }

    private int tell(List<int[]> items) {
        Oracle other = new Oracle();
        for (int i = 0; i < items.size(); i++) {
            int[] item = items.get(i);
            int answer = switch (item[0]) {
                case 'p' -> other.page(item[1], item[2]);
                case 'w' -> other.word(item[1]);
                default -> other.put(item[1], item[2]);
            };
            if (Arrays.stream(other.refused).sum() > 0) {
                return answer > 0 ? 0 : -1000 - i;
            }
        }
        now = other.now;
        return items.size();
    }

    // ---- marks, weeks

    private void remember() {
        now.pasts.add(new Past(List.copyOf(now.pieces), now.purse, now.week));
        if (now.pasts.size() > 8) {
            now.pasts.remove(0);
        }
    }

    int buy(int word, int kind) {
        if (!isPiece(word) || !in(kind, 0, 5)) {
            return refuse(0, -2);
        }
        int cost = cost(kind);
        if (now.pieces.get(word).kind != -1 || cost > now.purse) {
            return refuse(1, -3);
        }
        remember();
        setMark(word, kind);
        now = with(now.breath, now.price, now.purse - cost, now.week);
        return cost;
    }

    int sell(int word) {
        if (!isPiece(word)) {
            return refuse(0, -2);
        }
        if (now.pieces.get(word).kind == -1) {
            return refuse(1, -3);
        }
        remember();
        int half = cost(setMark(word, -1)) / 2;
        now = with(now.breath, now.price, now.purse + half > 999 ? 999 : now.purse + half, now.week);
        return half;
    }

    int readOut() {
        remember();
        int said = said(lengths(), kinds(), now.breath);
        for (int i = 0; i < said; i++) {
            Piece p = now.pieces.get(i);
            if (p.kind != -1) {
                boolean gone = LASTS[p.kind] == p.reads + 1;
                now.pieces.set(i, new Piece(p.length, gone ? -1 : p.kind, gone ? 0 : p.reads + 1));
            }
        }
        return said;
    }

    int week(int n) {
        if (!in(n, 1, 20)) {
            return refuse(0, -2);
        }
        remember();
        now = with(now.breath, now.price, now.purse, now.week + n);
        return now.week;
    }

    int undo() {
        if (now.pasts.isEmpty()) {
            return refuse(1, -3);
        }
        Past past = now.pasts.remove(now.pasts.size() - 1);
        now.pieces.clear();
        now.pieces.addAll(past.pieces);
        now = with(now.breath, now.price, past.purse, past.week);
        return past.purse;
    }

    int of(int word, int what) {
        if (!isPiece(word) || !in(what, 0, 3)) {
            return refuse(0, -10);
        }
        Piece p = now.pieces.get(word);
        return new int[] {p.length, p.kind, p.reads, p.kind == -1 ? 0 : cost(p.kind)}[what];
    }

    int costs(int kind) {
        return in(kind, 0, 5) ? cost(kind) : refuse(0, -2);
    }

    int gives(int kind, int h) {
        return in(kind, 0, 5) && in(h, 0, now.breath) ? gives(kind, h, now.breath) : refuse(0, -2);
    }

    // ---- what would be read

    private int stuckAt(int breath) {
        int said = said(lengths(), kinds(), breath);
        return said == now.pieces.size() ? -1 : said;
    }

    int stuck() {
        return stuckAt(now.breath);
    }

    int sentences(int what) {
        List<Integer> sizes = new ArrayList<>();
        int open = 0;
        for (Piece p : now.pieces) {
            open++;
            if (ENDS.contains(p.kind)) {
                sizes.add(open);
                open = 0;
            }
        }
        int ended = open == 0 && !sizes.isEmpty() ? 1 : 0;
        if (open > 0) {
            sizes.add(open);
        }
        int longest = sizes.stream().mapToInt(n -> n).max().orElse(0);
        return in(what, 0, 3) ? new int[] {sizes.size(), ended, longest, sizes.indexOf(longest)}[what] : refuse(0, -2);
    }

    /** All rows of marks that can be bought, in their order: none, then the kinds. */
    private List<int[]> rows() {
        List<int[]> rows = new ArrayList<>();
        rows.add(new int[0]);
        for (Piece p : now.pieces) {
            List<int[]> longer = new ArrayList<>();
            for (int[] row : rows) {
                for (int kind = -1; kind <= (p.kind == -1 ? 5 : -1); kind++) {
                    int[] next = Arrays.copyOf(row, row.length + 1);
                    next[row.length] = kind;
                    longer.add(next);
                }
            }
            rows = longer;
        }
        return rows;
    }

    private int costOf(int[] row) {
        return Arrays.stream(row).filter(kind -> kind != -1).map(this::cost).sum();
    }

    private int[] under(int[] row) {
        int[] kinds = kinds();
        for (int i = 0; i < row.length; i++) {
            kinds[i] = row[i] == -1 ? kinds[i] : row[i];
        }
        return kinds;
    }

    int free() {
        return (int) now.pieces.stream().filter(p -> p.kind == -1).count();
    }

    int pieces() {
        return now.pieces.size();
    }

    int cheapest(int b, int end, int i) {
        if (!in(b, 1, 30) || !in(end, 0, 1) || i < -1) {
            return refuse(0, -10);
        }
        int n = now.pieces.size();
        int[] best = null;
        long least = Long.MAX_VALUE;
        for (int[] row : rows()) {
            int[] kinds = under(row);
            boolean whole = said(lengths(), kinds, b) == n;
            boolean ended = end == 0 || n == 0 || ENDS.contains(kinds[n - 1]);
            long worth = 100L * costOf(row) + Arrays.stream(row).filter(kind -> kind != -1).count();
            if (whole && ended && worth < least) {
                best = row;
                least = worth;
            }
        }
        if (best == null || i >= n) {
            return -5;
        }
        return i == -1 ? costOf(best) : best[i];
    }

    int reach(int q) {
        if (!in(q, 0, 999)) {
            return refuse(0, -2);
        }
        return rows().stream().filter(row -> costOf(row) <= q)
            .mapToInt(row -> said(lengths(), under(row), now.breath)).max().orElse(-1);
    }

    int order(int i) {
        if (i < -1) {
            return refuse(0, -10);
        }
        int n = now.pieces.size();
        if (n > 7) {
            return refuse(1, -20);
        }
        if (i >= n) {
            return -5;
        }
        int most = -1;
        int[] best = null;
        int[] row = new int[n];
        for (int k = 0; k < n; k++) {
            row[k] = k;
        }
        do {
            int said = said(Arrays.stream(row).map(p -> now.pieces.get(p).length).toArray(), kinds(), now.breath);
            if (said > most) {
                most = said;
                best = row.clone();
            }
        } while (nextRow(row));
        return i == -1 ? most : best[i];
    }

    private static boolean nextRow(int[] row) {
        int k = row.length - 2;
        while (k >= 0 && row[k] > row[k + 1]) {
            k--;
        }
        if (k < 0) {
            return false;
        }
        int j = row.length - 1;
        while (row[j] < row[k]) {
            j--;
        }
        int swap = row[k];
        row[k] = row[j];
        row[j] = swap;
        Arrays.sort(row, k + 1, row.length);
        return true;
    }

    // ---- what was heard, bids

    int heard(int word) {
        if (word != -1 && !isPiece(word)) {
            return refuse(0, -2);
        }
        if (now.heard.size() == 6) {
            return refuse(2, -4);
        }
        int bits = 0;
        for (int b = 1; b <= 30; b++) {
            bits += stuckAt(b) == word ? 1 << b : 0;
        }
        now.heard.add(bits);
        return now.heard.size();
    }

    int forget() {
        int had = now.heard.size();
        now.heard.clear();
        return had;
    }

    int breaths() {
        return now.heard.stream().reduce(Integer.MAX_VALUE - 1, (a, b) -> a & b);
    }

    int shorter() {
        int fewest = Integer.MAX_VALUE;
        int which = -1;
        List<Piece> all = List.copyOf(now.pieces);
        for (int gone = 0; gone < all.size() && breaths() != 0; gone++) {
            now.pieces.remove(gone);
            int[] alike = new int[13];
            for (int b = 1; b <= 30; b++) {
                alike[stuckAt(b) + 1] += breaths() >> b & 1;
            }
            now.pieces.add(gone, all.get(gone));
            int most = Arrays.stream(alike).max().orElse(0);
            if (most < fewest) {
                fewest = most;
                which = gone;
            }
        }
        return which;
    }

    int bid(int kind, int a, int b, int x, int y, int what) {
        boolean good = in(kind, 0, 5) && in(a, 0, 20) && in(b, 0, 20) && in(x, 0, 20) && in(y, 0, 20) && in(what, 0, 1);
        if (!good) {
            return refuse(0, -10);
        }
        int[][] one = new int[a + 1][b + 1];
        int[][] two = new int[a + 1][b + 1];
        for (int i = 0; i <= a; i++) {
            for (int j = 0; j <= b; j++) {
                boolean counts = Math.max(i, j) >= cost(kind);
                one[i][j] = counts && i > j ? x - i : 0;
                two[i][j] = counts && j > i ? y - j : 0;
            }
        }
        List<Integer> resting = new ArrayList<>();
        for (int i = 0; i <= a; i++) {
            for (int j = 0; j <= b; j++) {
                int column = j;
                int best = Arrays.stream(one).mapToInt(row -> row[column]).max().orElse(0);
                if (one[i][j] == best && two[i][j] == Arrays.stream(two[i]).max().orElse(0)) {
                    resting.add(100 * i + j);
                }
            }
        }
        return what == 0 ? resting.size() : resting.isEmpty() ? -1 : resting.get(0);
    }

    int odds(int c) {
        if (!in(c, 0, 10)) {
            return refuse(0, -2);
        }
        int n = now.pieces.size();
        BigInteger sum = BigInteger.ZERO;
        BigInteger whole = BigInteger.TEN.pow(n);
        for (int gone = 0; gone < 1 << n; gone++) {
            int[] kinds = kinds();
            BigInteger weight = BigInteger.ONE;
            for (int i = 0; i < n; i++) {
                boolean forgotten = (gone >> i & 1) == 1;
                weight = weight.multiply(BigInteger.valueOf(forgotten ? c : 10 - c));
                kinds[i] = forgotten ? -1 : kinds[i];
            }
            if (said(lengths(), kinds, now.breath) == n) {
                sum = sum.add(weight);
            }
        }
        BigInteger g = sum.gcd(whole);
        above = sum.divide(g);
        below = whole.divide(g);
        return 1;
    }

    int drawn(int seed, int n) {
        if (!in(seed, 0, 999999) || !in(n, 0, 60)) {
            return refuse(0, -2);
        }
        ArrayDeque<Integer> lengths = new ArrayDeque<>();
        BigInteger x = BigInteger.valueOf(seed);
        for (int k = 0; k < n * now.pieces.size(); k++) {
            x = x.multiply(BigInteger.valueOf(1103515245)).add(BigInteger.valueOf(12345)).mod(BigInteger.TWO.pow(31));
            lengths.add(x.shiftRight(16).mod(BigInteger.valueOf(9)).intValue() + 1);
        }
        int whole = 0;
        for (int t = 0; t < n; t++) {
            int[] text = now.pieces.stream().mapToInt(p -> lengths.remove()).toArray();
            whole += said(text, kinds(), now.breath) == text.length ? 1 : 0;
        }
        return whole;
    }

    // ---- what there is

    long part(int what) {
        return in(what, 0, 1) ? (what == 0 ? above : below).longValueExact() : refuse(0, -2);
    }

    int image(int i) {
        if (!in(i, 0, 1)) {
            return refuse(0, -2);
        }
        images[i] = copy(now);
        return 1;
    }

    int from(int i) {
        if (!in(i, 0, 1)) {
            return refuse(0, -2);
        }
        if (images[i] == null) {
            return refuse(1, -3);
        }
        now = copy(images[i]);
        return 1;
    }

    int status(int what) {
        return in(what, 0, 2) ? refused[what] : refuse(0, -1);
    }

    private int[] counts() {
        return new int[] {now.pieces.size(), now.pieces.size() - free(), now.breath, now.price, now.purse,
            now.week, now.heard.size(), now.pasts.size(), text.length()};
    }

    int count(int what) {
        return in(what, 0, 8) ? counts()[what] : refuse(0, -2);
    }

    long digest() {
        List<Long> values = new ArrayList<>();
        Arrays.stream(counts()).forEach(v -> values.add((long) v));
        for (Piece p : now.pieces) {
            values.addAll(List.of((long) p.length, (long) p.kind, (long) p.reads));
        }
        now.heard.forEach(v -> values.add((long) v));
        values.addAll(List.of(part(0), part(1)));
        return values.stream().reduce(1063L, (h, v) -> 31 * h + v);
    }
}
