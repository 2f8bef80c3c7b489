import java.util.Arrays;

/**
 * Stops sold apart: a row of pieces to be read in one breath, and marks behind them that are bought.
 * The face answers calls; the page, the text, the plans and the chances each have a class inside.
 */
public final class SoldStops {
    public static final int NONE = -1, BAD = -2, NO = -3, FULL = -4;

    private static final int BAD_ASKED = -10, NO_ORDER = -20, NO_SUCH = -5;
    private static final int FAULT_FROM = -10, REFUSED_FROM = -1000;
    private static final int MOST_WORDS = 12, MOST_LENGTH = 9, MOST_ORDERED = 7;
    private static final int MOST_BREATH = 30, MOST_PRICE = 9, MOST_PURSE = 999;
    private static final int MOST_WEEKS = 20, MOST_UNDONE = 8, MOST_HEARD = 6;
    private static final int MOST_BYTES = 150, LAST_BYTE = 127, IMAGES = 2;
    private static final int MOST_BID = 20, TENTHS = 10;
    private static final int LAST_SEED = 999999, MOST_DRAWN = 60;
    private static final int ALL_BREATHS = 0x7FFFFFFE;
    private static final int COUNTS = 9;

    private final Page page = new Page();
    // An item may be refused halfway through a text: so a page is told here first.
    private final Page spare = new Page();
    private final Page[] images = {new Page(), new Page()};
    private final boolean[] kept = new boolean[IMAGES];
    private final Text text = new Text();
    private final Plan plan = new Plan();
    private final Order order = new Order();
    private final Chance chance = new Chance();
    private final int[] alike = new int[MOST_WORDS + 1];
    private int bads, nos, fulls;

    public SoldStops() {
    }

    // ---- a page

    public int page(int breath, int price) {
        if (!isBreath(breath) || !isPrice(price)) {
            return bad(BAD);
        }
        int had = page.words;
        page.begin(breath, price);
        return had;
    }

    public int word(int length) {
        if (!isLength(length)) {
            return bad(BAD);
        }
        if (!page.hasRoom()) {
            return full(FULL);
        }
        page.addWord(length);
        return page.words - 1;
    }

    public int breath(int b) {
        if (!isBreath(b)) {
            return bad(BAD);
        }
        int was = page.breath;
        page.breath = b;
        return was;
    }

    public int price(int p) {
        if (!isPrice(p)) {
            return bad(BAD);
        }
        int was = page.price;
        page.price = p;
        return was;
    }

    public int purse(int n) {
        if (!isWithin(n, 0, MOST_PURSE)) {
            return bad(BAD);
        }
        int was = page.marks.purse;
        page.marks.purse = n;
        return was;
    }

    public int put(int word, int kind) {
        if (!page.has(word) || !Kinds.isOne(kind)) {
            return bad(BAD_ASKED);
        }
        int was = page.marks.kinds[word];
        page.setMark(word, kind);
        return was;
    }

    public int type(int c) {
        if (!isWithin(c, 0, LAST_BYTE)) {
            return bad(BAD);
        }
        if (text.size >= MOST_BYTES) {
            return full(FULL);
        }
        text.add(c);
        return text.size;
    }

    public int clear() {
        int had = text.size;
        text.size = 0;
        return had;
    }

    public int read() {
        int fault = text.findFault();
        if (fault != NONE) {
            return FAULT_FROM - fault;
        }
        for (int i = 0; i < text.items; i++) {
            if (!tellItem(i)) {
                return REFUSED_FROM - i;
            }
        }
        page.copy(spare);
        return text.items;
    }

    // ---- marks, weeks

    public int buy(int word, int kind) {
        if (!page.has(word) || !Kinds.isOne(kind)) {
            return bad(BAD);
        }
        int cost = page.costOf(kind);
        if (page.marks.kinds[word] != NONE || page.marks.purse < cost) {
            return no(NO);
        }
        page.remember();
        page.marks.set(word, kind);
        page.marks.purse -= cost;
        return cost;
    }

    public int sell(int word) {
        if (!page.has(word)) {
            return bad(BAD);
        }
        if (page.marks.kinds[word] == NONE) {
            return no(NO);
        }
        int half = page.costOf(page.marks.kinds[word]) / 2;
        page.remember();
        page.marks.set(word, NONE);
        page.marks.purse = Math.min(page.marks.purse + half, MOST_PURSE);
        return half;
    }

    public int readOut() {
        page.remember();
        return page.say();
    }

    public int week(int n) {
        if (!isWithin(n, 1, MOST_WEEKS)) {
            return bad(BAD);
        }
        page.remember();
        page.marks.week += n;
        return page.marks.week;
    }

    public int undo() {
        if (page.pasts == 0) {
            return no(NO);
        }
        page.goBack();
        return page.marks.purse;
    }

    public int of(int word, int what) {
        if (!page.has(word)) {
            return bad(BAD_ASKED);
        }
        switch (what) {
            case 0:
                return page.lengths[word];
            case 1:
                return page.marks.kinds[word];
            case 2:
                return page.marks.reads[word];
            case 3:
                return page.costOf(page.marks.kinds[word]);
            default:
                return bad(BAD_ASKED);
        }
    }

    public int costs(int kind) {
        return Kinds.isOne(kind) ? page.costOf(kind) : bad(BAD);
    }

    public int gives(int kind, int h) {
        if (!Kinds.isOne(kind) || !isWithin(h, 0, page.breath)) {
            return bad(BAD);
        }
        return Kinds.breathBehind(kind, h, page.breath);
    }

    // ---- what would be read

    public int stuck() {
        return page.stuckAt(page.breath, NONE);
    }

    public int sentences(int what) {
        switch (what) {
            case 0:
                return page.howManySentences();
            case 1:
                return page.lastIsEnded() ? 1 : 0;
            case 2:
                return page.longestSentence(false);
            case 3:
                return page.longestSentence(true);
            default:
                return bad(BAD);
        }
    }

    public int cheapest(int b, int end, int i) {
        if (!isBreath(b) || !isWithin(end, 0, 1) || i < NONE) {
            return bad(BAD_ASKED);
        }
        plan.make(page, b, end == 1);
        if (i >= page.words || !plan.isThere(b)) {
            return NO_SUCH;
        }
        return i == NONE ? plan.cost(b) : plan.kindBehind(page, b, i);
    }

    public int reach(int q) {
        return isWithin(q, 0, MOST_PURSE) ? plan.reachFor(page, q) : bad(BAD);
    }

    public int order(int i) {
        if (i < NONE) {
            return bad(BAD_ASKED);
        }
        if (page.words > MOST_ORDERED) {
            return no(NO_ORDER);
        }
        if (i >= page.words) {
            return NO_SUCH;
        }
        order.search(page);
        return i == NONE ? order.most : order.best[i];
    }

    // ---- what was heard, bids

    public int heard(int word) {
        if (word != NONE && !page.has(word)) {
            return bad(BAD);
        }
        if (page.heards >= MOST_HEARD) {
            return full(FULL);
        }
        page.addHeard(page.breathsStuckAt(word));
        return page.heards;
    }

    public int forget() {
        int had = page.heards;
        page.heards = 0;
        return had;
    }

    public int breaths() {
        return page.breathsHeard();
    }

    public int shorter() {
        int breaths = page.breathsHeard();
        int best = NONE, fewest = MOST_BREATH + 1;
        if (breaths == 0) {
            return NONE;
        }
        for (int gone = 0; gone < page.words; gone++) {
            int most = mostAlike(breaths, gone);
            if (most < fewest) {
                best = gone;
                fewest = most;
            }
        }
        return best;
    }

    public int bid(int kind, int a, int b, int x, int y, int what) {
        boolean purses = isWithin(a, 0, MOST_BID) && isWithin(b, 0, MOST_BID);
        boolean worths = isWithin(x, 0, MOST_BID) && isWithin(y, 0, MOST_BID);
        if (!Kinds.isOne(kind) || !purses || !worths || !isWithin(what, 0, 1)) {
            return bad(BAD_ASKED);
        }
        int cost = page.costOf(kind);
        int first = NONE, resting = 0;
        for (int one = 0; one <= a; one++) {
            for (int other = 0; other <= b; other++) {
                if (isBest(one, a, other, x, cost) && isBest(other, b, one, y, cost)) {
                    first = resting == 0 ? 100 * one + other : first;
                    resting++;
                }
            }
        }
        return what == 0 ? resting : first;
    }

    public int odds(int c) {
        if (!isWithin(c, 0, TENTHS)) {
            return bad(BAD);
        }
        chance.reckon(page, c);
        return 1;
    }

    public int drawn(int seed, int n) {
        if (!isWithin(seed, 0, LAST_SEED) || !isWithin(n, 0, MOST_DRAWN)) {
            return bad(BAD);
        }
        long x = seed;
        int whole = 0;
        for (int t = 0; t < n; t++) {
            int left = page.breath;
            // A text that is stuck goes on drawing: the next one begins behind all its pieces.
            for (int i = 0; i < page.words; i++) {
                x = (x * 1103515245L + 12345L) % 2147483648L;
                int length = (int) (x / 65536L % 9L) + 1;
                left = page.leftBehind(i, length, left, page.breath);
            }
            if (left != NONE) {
                whole++;
            }
        }
        return whole;
    }

    // ---- what there is

    public long part(int what) {
        if (!isWithin(what, 0, 1)) {
            return bad(BAD);
        }
        return what == 0 ? chance.above : chance.below;
    }

    public int image(int i) {
        if (!isWithin(i, 0, IMAGES - 1)) {
            return bad(BAD);
        }
        images[i].copy(page);
        kept[i] = true;
        return 1;
    }

    public int from(int i) {
        if (!isWithin(i, 0, IMAGES - 1)) {
            return bad(BAD);
        }
        if (!kept[i]) {
            return no(NO);
        }
        page.copy(images[i]);
        return 1;
    }

    public int status(int what) {
        switch (what) {
            case 0:
                return bads;
            case 1:
                return nos;
            case 2:
                return fulls;
            default:
                return bad(-1);
        }
    }

    public int count(int what) {
        return isWithin(what, 0, COUNTS - 1) ? countOf(what) : bad(BAD);
    }

    public long digest() {
        long h = 1063;
        for (int what = 0; what < COUNTS; what++) {
            h = 31 * h + countOf(what);
        }
        for (int i = 0; i < page.words; i++) {
            h = 31 * h + page.lengths[i];
            h = 31 * h + page.marks.kinds[i];
            h = 31 * h + page.marks.reads[i];
        }
        for (int i = 0; i < page.heards; i++) {
            h = 31 * h + page.heard[i];
        }
        h = 31 * h + chance.above;
        return 31 * h + chance.below;
    }

    // ---- what the face needs

    private int bad(int answer) {
        bads++;
        return answer;
    }

    private int no(int answer) {
        nos++;
        return answer;
    }

    private int full(int answer) {
        fulls++;
        return answer;
    }

    private static boolean isWithin(int n, int least, int most) {
        return n >= least && n <= most;
    }

    private static boolean isBreath(int n) {
        return isWithin(n, 1, MOST_BREATH);
    }

    private static boolean isPrice(int n) {
        return isWithin(n, 1, MOST_PRICE);
    }

    private static boolean isLength(int n) {
        return isWithin(n, 1, MOST_LENGTH);
    }

    private int countOf(int what) {
        switch (what) {
            case 0:
                return page.words;
            case 1:
                return page.howManyMarks();
            case 2:
                return page.breath;
            case 3:
                return page.price;
            case 4:
                return page.marks.purse;
            case 5:
                return page.marks.week;
            case 6:
                return page.heards;
            case 7:
                return page.pasts;
            default:
                return text.size;
        }
    }

    /** Tells the spare page the i-th item of the text; false where its call would be refused. */
    private boolean tellItem(int i) {
        int first = text.firsts[i], second = text.seconds[i];
        switch (text.whats[i]) {
            case Text.PAGE:
                if (!isBreath(first) || !isPrice(second)) {
                    return false;
                }
                spare.begin(first, second);
                return true;
            case Text.WORD:
                if (!isLength(first) || !spare.hasRoom()) {
                    return false;
                }
                spare.addWord(first);
                return true;
            default:
                if (!spare.has(first) || !Kinds.isOne(second)) {
                    return false;
                }
                spare.setMark(first, second);
                return true;
        }
    }

    /** How many of the breaths, at most, would be stuck at one place, were a piece gone. */
    private int mostAlike(int breaths, int gone) {
        int most = 0;
        Arrays.fill(alike, 0);
        for (int b = 1; b <= MOST_BREATH; b++) {
            if ((breaths >> b & 1) == 1) {
                int at = page.stuckAt(b, gone);
                // Not to be stuck at all is one more way of being stuck alike.
                int place = at == NONE ? MOST_WORDS : at;
                alike[place]++;
                most = Math.max(most, alike[place]);
            }
        }
        return most;
    }

    private static int gain(int mine, int other, int worth, int cost) {
        return mine > other && mine >= cost ? worth - mine : 0;
    }

    private static boolean isBest(int mine, int purse, int other, int worth, int cost) {
        int now = gain(mine, other, worth, cost);
        for (int instead = 0; instead <= purse; instead++) {
            if (gain(instead, other, worth, cost) > now) {
                return false;
            }
        }
        return true;
    }

    /** What a mark of each kind costs, gives, and how long it lasts. */
    private static final class Kinds {
        static final int COMMA = 0, STOP = 1, QUESTION = 2, SHOUT = 3, DASH = 4, COLON = 5;

        static boolean isOne(int kind) {
            return kind >= COMMA && kind <= COLON;
        }

        static int cost(int kind, int price, int week) {
            int stop = 3 * price, dash = price + 1;
            switch (kind) {
                case COMMA:
                    return price;
                case STOP:
                    return stop;
                case QUESTION:
                    return week % 2 == 0 ? stop : stop - price;
                case SHOUT:
                    return 2 * stop + week % 4;
                case DASH:
                    return dash;
                case COLON:
                    return 2 * dash;
                default:
                    return 0;
            }
        }

        /** The breath behind a mark of one who had h ahead of it; no mark leaves it as it is. */
        static int breathBehind(int kind, int h, int breath) {
            int comma = Math.min(h + 3, breath);
            int dash = Math.min(comma + 3, breath);
            switch (kind) {
                case COMMA:
                    return comma;
                case STOP:
                case QUESTION:
                case SHOUT:
                    return breath;
                case DASH:
                    return dash;
                case COLON:
                    return Math.max(dash, breath / 2);
                default:
                    return h;
            }
        }

        /** After how many readings it is gone; 0: never. */
        static int lasts(int kind) {
            switch (kind) {
                case COMMA:
                    return 9;
                case QUESTION:
                    return 4;
                case DASH:
                case COLON:
                    return 5;
                default:
                    return 0;
            }
        }

        static boolean ends(int kind) {
            return kind == STOP || kind == QUESTION || kind == SHOUT || kind == COLON;
        }
    }

    /** The marks, the purse and the week: what an undo brings back together. */
    private static final class Marks {
        int purse, week;
        final int[] kinds = new int[MOST_WORDS];
        final int[] reads = new int[MOST_WORDS];

        void set(int word, int kind) {
            kinds[word] = kind;
            reads[word] = 0;
        }

        void readOnce(int word) {
            int kind = kinds[word];
            if (kind == NONE) {
                return;
            }
            reads[word]++;
            if (reads[word] == Kinds.lasts(kind)) {
                set(word, NONE);
            }
        }

        void copy(Marks other) {
            purse = other.purse;
            week = other.week;
            System.arraycopy(other.kinds, 0, kinds, 0, MOST_WORDS);
            System.arraycopy(other.reads, 0, reads, 0, MOST_WORDS);
        }
    }

    /** All that an image keeps. */
    private static final class Page {
        int breath = 10, price = 2, words, heards, pasts;
        final int[] lengths = new int[MOST_WORDS];
        final Marks marks = new Marks();
        final int[] heard = new int[MOST_HEARD];
        private final Marks[] past = new Marks[MOST_UNDONE];

        Page() {
            for (int i = 0; i < MOST_UNDONE; i++) {
                past[i] = new Marks();
            }
        }

        void begin(int newBreath, int newPrice) {
            breath = newBreath;
            price = newPrice;
            marks.purse = 0;
            marks.week = 0;
            words = 0;
            heards = 0;
            pasts = 0;
        }

        void copy(Page other) {
            breath = other.breath;
            price = other.price;
            words = other.words;
            heards = other.heards;
            pasts = other.pasts;
            System.arraycopy(other.lengths, 0, lengths, 0, MOST_WORDS);
            System.arraycopy(other.heard, 0, heard, 0, MOST_HEARD);
            marks.copy(other.marks);
            for (int i = 0; i < MOST_UNDONE; i++) {
                past[i].copy(other.past[i]);
            }
        }

        boolean has(int word) {
            return word >= 0 && word < words;
        }

        boolean hasRoom() {
            return words < MOST_WORDS;
        }

        void addWord(int length) {
            lengths[words] = length;
            marks.set(words, NONE);
            words++;
            pasts = 0;
        }

        void setMark(int word, int kind) {
            marks.set(word, kind);
            pasts = 0;
        }

        int costOf(int kind) {
            return Kinds.cost(kind, price, marks.week);
        }

        int howManyMarks() {
            int there = 0;
            for (int i = 0; i < words; i++) {
                if (marks.kinds[i] != NONE) {
                    there++;
                }
            }
            return there;
        }

        void remember() {
            if (pasts == MOST_UNDONE) {
                dropOldest();
            }
            past[pasts].copy(marks);
            pasts++;
        }

        private void dropOldest() {
            Marks oldest = past[0];
            for (int i = 1; i < MOST_UNDONE; i++) {
                past[i - 1] = past[i];
            }
            past[MOST_UNDONE - 1] = oldest;
            pasts = MOST_UNDONE - 1;
        }

        void goBack() {
            if (pasts > 0) {
                pasts--;
                marks.copy(past[pasts]);
            }
        }

        /** What is left behind a piece of this length and its mark; NONE where one is stuck. */
        int leftBehind(int word, int length, int left, int full) {
            return length > left ? NONE : Kinds.breathBehind(marks.kinds[word], left - length, full);
        }

        int say() {
            int left = breath;
            for (int i = 0; i < words; i++) {
                left = leftBehind(i, lengths[i], left, breath);
                if (left == NONE) {
                    return i;
                }
                marks.readOnce(i);
            }
            return words;
        }

        /** Where one of this breath is stuck, were the piece gone. */
        int stuckAt(int full, int gone) {
            int left = full;
            for (int i = 0; i < words; i++) {
                if (i != gone) {
                    left = leftBehind(i, lengths[i], left, full);
                }
                if (left == NONE) {
                    return i;
                }
            }
            return NONE;
        }

        int breathsStuckAt(int word) {
            int breaths = 0;
            for (int b = 1; b <= MOST_BREATH; b++) {
                if (stuckAt(b, NONE) == word) {
                    breaths |= 1 << b;
                }
            }
            return breaths;
        }

        void addHeard(int breaths) {
            heard[heards] = breaths;
            heards++;
        }

        int breathsHeard() {
            int breaths = ALL_BREATHS;
            for (int i = 0; i < heards; i++) {
                breaths &= heard[i];
            }
            return breaths;
        }

        boolean lastIsEnded() {
            return words > 0 && Kinds.ends(marks.kinds[words - 1]);
        }

        int howManySentences() {
            int ended = 0;
            for (int i = 0; i < words; i++) {
                if (Kinds.ends(marks.kinds[i])) {
                    ended++;
                }
            }
            return words == 0 || lastIsEnded() ? ended : ended + 1;
        }

        /** Of the first longest sentence: which it is, or how many pieces it has. */
        int longestSentence(boolean which) {
            int longest = 0, first = NONE, sentence = 0, pieces = 0;
            for (int i = 0; i < words; i++) {
                pieces++;
                if (pieces > longest) {
                    longest = pieces;
                    first = sentence;
                }
                if (Kinds.ends(marks.kinds[i])) {
                    sentence++;
                    pieces = 0;
                }
            }
            return which ? first : longest;
        }
    }

    /** THE TEXT, and the items that stand in it. */
    private static final class Text {
        static final int PAGE = 1, WORD = 2, MARK = 3;
        private static final int END = 0, NUMBER = 4, SEMICOLON = 5, WRONG = 6;

        int size, items;
        private final int[] bytes = new int[MOST_BYTES];
        // No text has more items than bytes.
        final int[] whats = new int[MOST_BYTES];
        final int[] firsts = new int[MOST_BYTES];
        final int[] seconds = new int[MOST_BYTES];
        private int token, value, place, behind;

        void add(int c) {
            bytes[size] = c;
            size++;
        }

        /** The place of the fault; NONE: there is none, and the items stand in their rows. */
        int findFault() {
            behind = 0;
            next();
            for (items = 0; items < MOST_BYTES && token != END; items++) {
                if (!mayBegin() || !takeItem()) {
                    return place;
                }
            }
            return items == 0 ? size : NONE;
        }

        private boolean mayBegin() {
            return items == 0 ? token == PAGE : token == WORD || token == MARK;
        }

        private boolean takeItem() {
            whats[items] = token;
            int numbers = token == WORD ? 1 : 2;
            next();
            firsts[items] = value;
            if (token != NUMBER) {
                return false;
            }
            if (numbers == 2) {
                next();
                if (token != NUMBER) {
                    return false;
                }
            }
            seconds[items] = value;
            next();
            if (token != SEMICOLON) {
                return false;
            }
            next();
            return true;
        }

        private void next() {
            place = runEnd(behind, ' ', ' ');
            if (place >= size) {
                token = END;
                return;
            }
            int c = bytes[place];
            if (c >= 'a' && c <= 'z') {
                behind = runEnd(place, 'a', 'z');
                token = wordHere();
            } else if (c >= '0' && c <= '9') {
                behind = runEnd(place, '0', '9');
                token = numberHere();
            } else {
                behind = place + 1;
                token = c == ';' ? SEMICOLON : WRONG;
            }
        }

        private int runEnd(int start, int least, int most) {
            int end = start;
            while (end < size && bytes[end] >= least && bytes[end] <= most) {
                end++;
            }
            return end;
        }

        private int wordHere() {
            if (isHere("page")) {
                return PAGE;
            }
            if (isHere("word")) {
                return WORD;
            }
            return isHere("mark") ? MARK : WRONG;
        }

        private boolean isHere(String word) {
            if (behind - place != word.length()) {
                return false;
            }
            for (int i = 0; i < word.length(); i++) {
                if (bytes[place + i] != word.charAt(i)) {
                    return false;
                }
            }
            return true;
        }

        private int numberHere() {
            if (behind - place > 2) {
                return WRONG;
            }
            value = 0;
            for (int i = place; i < behind; i++) {
                value = 10 * value + bytes[i] - '0';
            }
            return NUMBER;
        }
    }

    /** Which marks to buy: rows over the places and the breath left ahead of them. */
    private static final class Plan {
        // Above all that twelve marks can cost.
        private static final int NEVER = 1000000;

        private final int[][] costs = new int[MOST_WORDS + 1][MOST_BREATH + 1];
        private final int[][] fewest = new int[MOST_WORDS + 1][MOST_BREATH + 1];
        private final int[][] choices = new int[MOST_WORDS][MOST_BREATH + 1];
        private final int[] now = new int[MOST_BREATH + 1];
        private final int[] then = new int[MOST_BREATH + 1];

        /** From the last piece back, so that the first kind of like ones is the first row. */
        void make(Page page, int full, boolean end) {
            int words = page.words;
            Arrays.fill(costs[words], 0);
            Arrays.fill(fewest[words], 0);
            for (int i = words - 1; i >= 0; i--) {
                boolean mustEnd = end && i == words - 1;
                Arrays.fill(costs[i], NEVER);
                Arrays.fill(choices[i], NONE);
                for (int h = page.lengths[i]; h <= full; h++) {
                    choose(page, i, h, full, mustEnd);
                }
            }
        }

        private void choose(Page page, int i, int h, int full, boolean mustEnd) {
            int there = page.marks.kinds[i];
            int last = there == NONE ? Kinds.COLON : NONE;
            for (int kind = NONE; kind <= last; kind++) {
                int behind = kind == NONE ? there : kind;
                int after = Kinds.breathBehind(behind, h - page.lengths[i], full);
                int cost = costs[i + 1][after] + page.costOf(kind);
                int bought = fewest[i + 1][after] + (kind == NONE ? 0 : 1);
                boolean better = cost < costs[i][h] || cost == costs[i][h] && bought < fewest[i][h];
                if (cost < NEVER && better && (!mustEnd || Kinds.ends(behind))) {
                    costs[i][h] = cost;
                    fewest[i][h] = bought;
                    choices[i][h] = kind;
                }
            }
        }

        boolean isThere(int full) {
            return costs[0][full] < NEVER;
        }

        int cost(int full) {
            return costs[0][full];
        }

        int kindBehind(Page page, int full, int word) {
            int left = full;
            for (int i = 0; i < word; i++) {
                int there = page.marks.kinds[i];
                int behind = there == NONE ? choices[i][left] : there;
                left = Kinds.breathBehind(behind, left - page.lengths[i], full);
            }
            return choices[word][left];
        }

        int reachFor(Page page, int q) {
            Arrays.fill(now, NEVER);
            now[page.breath] = 0;
            for (int i = 0; i < page.words; i++) {
                Arrays.fill(then, NEVER);
                boolean said = false;
                for (int h = page.lengths[i]; h <= page.breath; h++) {
                    if (now[h] <= q) {
                        said = true;
                        spread(page, i, h);
                    }
                }
                if (!said) {
                    return i;
                }
                System.arraycopy(then, 0, now, 0, now.length);
            }
            return page.words;
        }

        private void spread(Page page, int i, int h) {
            int there = page.marks.kinds[i];
            int last = there == NONE ? Kinds.COLON : NONE;
            for (int kind = NONE; kind <= last; kind++) {
                int behind = kind == NONE ? there : kind;
                int after = Kinds.breathBehind(behind, h - page.lengths[i], page.breath);
                then[after] = Math.min(then[after], now[h] + page.costOf(kind));
            }
        }
    }

    /** The first row of the pieces by which most are read. */
    private static final class Order {
        int most;
        final int[] best = new int[MOST_ORDERED];
        private final int[] row = new int[MOST_ORDERED];
        private final boolean[] used = new boolean[MOST_ORDERED];

        void search(Page page) {
            most = 0;
            for (int i = 0; i < MOST_ORDERED; i++) {
                best[i] = i;
                used[i] = false;
            }
            extend(this, page, 0, page.breath);
        }

        /** Rows come in their order, so a row counts only where more is read than by all before it. */
        private static void extend(Order o, Page page, int place, int left) {
            if (place > o.most) {
                o.keepRow(page.words, place);
            }
            if (place >= MOST_ORDERED) {
                return;
            }
            for (int p = 0; p < page.words && p < MOST_ORDERED && o.most < page.words; p++) {
                int after = page.leftBehind(place, page.lengths[p], left, page.breath);
                if (!o.used[p] && after != NONE) {
                    o.used[p] = true;
                    o.row[place] = p;
                    extend(o, page, place + 1, after);
                    o.used[p] = false;
                }
            }
        }

        /** What is stuck comes behind, as it stands: the first row of all that begin so. */
        private void keepRow(int words, int read) {
            most = read;
            System.arraycopy(row, 0, best, 0, read);
            int place = read;
            for (int p = 0; p < words && place < MOST_ORDERED; p++) {
                if (!used[p]) {
                    best[place] = p;
                    place++;
                }
            }
        }
    }

    /** THE FRACTION, and the weights by which it is reckoned. */
    private static final class Chance {
        long above = 0, below = 1;
        private final long[] now = new long[MOST_BREATH + 1];
        private final long[] then = new long[MOST_BREATH + 1];

        void reckon(Page page, int c) {
            long whole = 1;
            Arrays.fill(now, 0);
            now[page.breath] = 1;
            for (int i = 0; i < page.words; i++) {
                boolean marked = page.marks.kinds[i] != NONE;
                step(page, i, marked ? c : 1, marked ? TENTHS - c : 0);
                whole *= marked ? TENTHS : 1;
            }
            long sum = 0;
            for (int h = 0; h <= page.breath; h++) {
                sum += now[h];
            }
            setLowest(sum, whole);
        }

        private void step(Page page, int i, int without, int with) {
            Arrays.fill(then, 0);
            for (int h = page.lengths[i]; h <= page.breath; h++) {
                int left = h - page.lengths[i];
                int after = Kinds.breathBehind(page.marks.kinds[i], left, page.breath);
                then[left] += now[h] * without;
                then[after] += now[h] * with;
            }
            System.arraycopy(then, 0, now, 0, now.length);
        }

        private void setLowest(long part, long whole) {
            long a = whole, b = part;
            // Euclid's steps on numbers of thirteen figures end far below this bound.
            for (int step = 0; step < 1000 && b != 0; step++) {
                long rest = a % b;
                a = b;
                b = rest;
            }
            above = a == 0 ? 0 : part / a;
            below = a == 0 ? 1 : whole / a;
        }
    }
}
