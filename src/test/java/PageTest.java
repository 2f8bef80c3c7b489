/** Promises 1 to 10: the page and its text. */
public final class PageTest {
    private static final Due D = new Due("PageTest");

    public static void main(String[] args) {
        newObject();
        page();
        word();
        settings();
        put();
        text();
        faults();
        refusedItems();
        pageReadAnew();
        D.end();
    }

    private static void newObject() {
        SoldStops s = new SoldStops();
        long[] counts = new long[9];
        for (int what = 0; what < 9; what++) {
            counts[what] = s.count(what);
        }
        D.row("count of a new one", counts, 0, 0, 10, 2, 0, 0, 0, 0, 0);
        D.row("status of a new one", new long[] {s.status(0), s.status(1), s.status(2)}, 0, 0, 0);
        D.row("part of a new one", new long[] {s.part(0), s.part(1)}, 0, 1);
        D.due("from(0) of a new one", s.from(0), -3);
        D.due("undo() of a new one", s.undo(), -3);
        D.due("breaths() of a new one", s.breaths(), 0x7FFFFFFE);
    }

    private static void page() {
        SoldStops s = Due.page(20, 3, 4, 5);
        s.purse(50);
        s.week(3);
        s.heard(1);
        Due.type(s, "ab");
        s.odds(0);
        D.due("page(1, 1)", s.page(1, 1), 2);
        D.row("after page", new long[] {s.count(0), s.count(1), s.count(2), s.count(3), s.count(4),
            s.count(5), s.count(6), s.count(7), s.count(8)}, 0, 0, 1, 1, 0, 0, 0, 0, 2);
        D.row("the fraction stays", new long[] {s.part(0), s.part(1)}, 1, 1);
        D.due("page(30, 9)", s.page(30, 9), 0);
        long before = s.digest();
        D.due("page(0, 1)", s.page(0, 1), -2);
        D.due("page(31, 1)", s.page(31, 1), -2);
        D.due("page(1, 0)", s.page(1, 0), -2);
        D.due("page(1, 10)", s.page(1, 10), -2);
        D.due("digest() behind bad pages", s.digest(), before);
        D.due("status(0)", s.status(0), 4);
    }

    private static void word() {
        SoldStops s = new SoldStops();
        D.due("word(0)", s.word(0), -2);
        D.due("word(10)", s.word(10), -2);
        for (int i = 0; i < 12; i++) {
            D.due("word", s.word(i % 9 + 1), i);
            D.due("of(" + i + ", 0)", s.of(i, 0), i % 9 + 1);
            D.due("of(" + i + ", 1)", s.of(i, 1), -1);
        }
        D.due("the 13th word", s.word(9), -4);
        D.due("a bad 13th word", s.word(0), -2);
        D.due("count(0)", s.count(0), 12);
        D.row("status", new long[] {s.status(0), s.status(1), s.status(2)}, 3, 0, 1);
        s = Due.page(10, 2, 3);
        s.put(0, 5);
        s.page(10, 2);
        s.word(3);
        D.due("no mark behind a piece that comes", s.of(0, 1), -1);
    }

    private static void settings() {
        SoldStops s = new SoldStops();
        D.row("breath", new long[] {s.breath(1), s.breath(30), s.breath(0), s.breath(31), s.breath(5)},
            10, 1, -2, -2, 30);
        D.row("price", new long[] {s.price(1), s.price(9), s.price(0), s.price(10), s.price(5)},
            2, 1, -2, -2, 9);
        D.row("purse", new long[] {s.purse(999), s.purse(0), s.purse(-1), s.purse(1000), s.purse(5)},
            0, 999, -2, -2, 0);
        D.row("counts", new long[] {s.count(2), s.count(3), s.count(4), s.status(0)}, 5, 5, 5, 6);
    }

    private static void put() {
        SoldStops s = Due.page(10, 2, 3, 4);
        D.row("put", new long[] {s.put(0, 0), s.put(0, 5), s.put(1, 3)}, -1, 0, -1);
        D.row("put, bad", new long[] {s.put(2, 0), s.put(-1, 0), s.put(0, 6), s.put(0, -1), s.status(0)},
            -10, -10, -10, -10, 4);
        s.readOut();
        D.due("of(0, 2) behind a reading", s.of(0, 2), 1);
        D.due("put(0, 5) of the same kind", s.put(0, 5), 5);
        D.due("of(0, 2) behind put", s.of(0, 2), 0);
        D.due("put is free", s.count(4), 0);
    }

    private static void text() {
        SoldStops s = new SoldStops();
        D.row("type", new long[] {s.type(-1), s.type(128), s.type(0), s.type(127)}, -2, -2, 1, 2);
        D.row("clear", new long[] {s.clear(), s.clear(), s.count(8)}, 2, 0, 0);
        for (int i = 1; i <= 150; i++) {
            D.due("type " + i, s.type('a'), i);
        }
        D.row("a full text", new long[] {s.type('a'), s.type(128), s.count(8), s.status(2), s.status(0)},
            -4, -2, 150, 1, 3);
    }

    private static void fault(String text, int place) {
        SoldStops s = Due.page(7, 3, 1, 2);
        s.put(0, 1);
        s.week(1);
        Due.type(s, text);
        long before = s.digest();
        D.due("read() of '" + text + "'", s.read(), -10 - place);
        D.due("digest() behind '" + text + "'", s.digest(), before);
        D.row("a fault is no refusal", new long[] {s.status(0), s.status(1), s.status(2)}, 0, 0, 0);
    }

    private static void faults() {
        fault("", 0);
        fault("   ", 3);
        fault("page", 4);
        fault("page ", 5);
        fault("page 1", 6);
        fault("page 1 2", 8);
        fault("pag", 0);
        fault("pages 1 2;", 0);
        fault("pagez 1 2;", 0);
        fault("wage 1 2;", 0);
        fault("page 1 2; bark 0 1;", 10);
        fault("page 1 2; lord 1;", 10);
        fault("Page 1 2;", 0);
        fault(";", 0);
        fault("word 1;", 0);
        fault(" 1 page 1 2;", 1);
        fault("page;", 4);
        fault("page 1;", 6);
        fault("page 1 2 3;", 9);
        fault("page 100 2;", 5);
        fault("page 1 002;", 7);
        fault("page 1 2;;", 9);
        fault("page 1 2; page 1 2;", 10);
        fault("page 1 2; word", 14);
        fault("page 1 2; word 1 1;", 17);
        fault("page 1 2; word;", 14);
        fault("page 1 2; mark 0;", 16);
        fault("page 1 2; mark 0 1", 18);
        fault("page 1 2; mark 0 1 2;", 19);
        fault("page 1 2; wordword 1;", 10);
        fault("page 1 2; comma 1;", 10);
        fault("page 1 2; 7", 10);
        fault("page 1 2;\nword 1;", 9);
        fault("page -1 2;", 5);
        fault("page 1,2;", 6);
        fault("page 0 2; word 0; x", 18);
    }

    private static void refused(String text, int item) {
        SoldStops s = Due.page(7, 3, 1, 2);
        s.heard(0);
        s.readOut();
        Due.type(s, text);
        long before = s.digest();
        D.due("read() of '" + text + "'", s.read(), -1000 - item);
        D.due("digest() behind '" + text + "'", s.digest(), before);
        D.row("items are no refusals", new long[] {s.status(0), s.status(1), s.status(2)}, 0, 0, 0);
        D.due("undo() is still there", s.undo(), 0);
    }

    private static void refusedItems() {
        refused("page 0 2;", 0);
        refused("page 31 2;", 0);
        refused("page 1 0;", 0);
        refused("page 1 10;", 0);
        refused("page 1 2;word 0;", 1);
        refused("page 1 2;word 10;", 1);
        refused("page 1 2;mark 0 1;", 1);
        refused("page 1 2;word 1;mark 1 1;", 2);
        refused("page 1 2;word 1;mark 0 6;", 2);
        refused("page 1 2;word 1;mark 0 5;word 0;word 0;", 3);
        refused("page 1 2;word1;word1;word1;word1;word1;word1;word1;word1;word1;word1;word1;word1;word1;", 13);
    }

    private static void pageReadAnew() {
        SoldStops s = Due.page(7, 3, 1, 2, 3);
        s.purse(9);
        s.week(1);
        s.heard(0);
        String text = " page12  09;word 4;word05 ;mark 0 0;mark 0 4;mark 1 1; ";
        D.due("read()", Due.read(s, text), 6);
        D.row("counts", new long[] {s.count(0), s.count(1), s.count(2), s.count(3), s.count(4), s.count(5),
            s.count(6), s.count(7)}, 2, 2, 12, 9, 0, 0, 0, 0);
        D.row("pieces", new long[] {s.of(0, 0), s.of(0, 1), s.of(1, 0), s.of(1, 1)}, 4, 4, 5, 1);
        D.due("the text stays", s.count(8), text.length());
        D.due("read() again", s.read(), 6);
        D.due("a page alone", Due.read(s, "page 30 1;"), 1);
        D.row("no pieces", new long[] {s.count(0), s.count(2), s.count(3)}, 0, 30, 1);
        D.due("nines", Due.read(s, "page 9 9;word 9;word 9;mark 1 5;"), 4);
        D.row("nines told", new long[] {s.count(2), s.count(3), s.of(1, 0), s.of(1, 1)}, 9, 9, 9, 5);
        Due.type(s, "page 30 1;");
        s.week(1);
        D.due("a page alone, again", s.read(), 1);
        D.due("told by these alone: none may be undone", s.undo(), -3);
    }
}
