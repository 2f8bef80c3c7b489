/** Promise 10 at its edges: THE TEXT, its tokens and items, the fault, what is refused. */
public final class EdgeTextTest {
    private static final Due D = new Due("EdgeTextTest");
    private static final String P = "page 9 2;";

    public static void main(String[] args) {
        emptyText();
        pageAlone();
        endsTooEarly();
        endsTooEarlyBehindBlanks();
        pageOnce();
        pageFirst();
        itemsEndInSemicolons();
        wordTakesOneNumber();
        markTakesTwoNumbers();
        wordsThatAreNone();
        numbersOfTwoFigures();
        bytesThatBeginNone();
        blanks();
        tokensWithoutBlanks();
        faultAheadOfRefusal();
        firstRefusedItem();
        refusedPages();
        refusedWords();
        thirteenthWord();
        refusedMarks();
        markAsPut();
        markIsFree();
        twelvePieces();
        longestText();
        pageToldAnew();
        readLeavesTheRest();
        readIsNoRefusal();
        readAnswersItems();
        D.end();
    }

    /** Nothing changes: neither the page, nor what may be undone, nor STATUS. */
    private static void due(String text, int answer) {
        SoldStops s = Due.page(7, 3, 1, 2);
        s.put(0, 1);
        s.week(1);
        s.heard(1);
        Due.type(s, text);
        long before = s.digest();
        D.due("read() of '" + text + "'", s.read(), answer);
        D.due("digest() behind '" + text + "'", s.digest(), before);
        D.row("status behind '" + text + "'", new long[] {s.status(0), s.status(1), s.status(2)}, 0, 0, 0);
        D.row("undo() behind '" + text + "'", new long[] {s.undo(), s.count(5)}, 0, 0);
    }

    private static void fault(String text, int place) {
        due(text, -10 - place);
    }

    private static void refused(String text, int item) {
        due(text, -1000 - item);
    }

    private static void taken(String text, int items) {
        SoldStops s = new SoldStops();
        D.due("read() of '" + text + "'", Due.read(s, text), items);
    }

    /** "the TEXT's length, if it ends too early (an empty one, too)". */
    private static void emptyText() {
        D.due("read() of a new one", new SoldStops().read(), -10);
        fault("", 0);
    }

    /** "page BREATH PRICE (once, first of all)": it may stand alone. */
    private static void pageAlone() {
        taken("page 1 1;", 1);
        taken("page 30 9;", 1);
    }

    /** "the TEXT's length, if it ends too early": behind each token of each item. */
    private static void endsTooEarly() {
        for (String text : new String[] {"page", "page 9", "page 9 2", P + "word", P + "word 1", P + "mark", P + "mark 0",
            P + "mark 0 1"}) {
            fault(text, text.length());
        }
    }

    /** The length, not the last token's end: blanks are bytes of THE TEXT. */
    private static void endsTooEarlyBehindBlanks() {
        fault(" ", 1);
        fault("     ", 5);
        fault("page 9 2  ", 10);
        fault(P + "word 1   ", 18);
    }

    /** "page again". */
    private static void pageOnce() {
        fault(P + "page 9 2;", 9);
        fault(P + " word 1; page", 18);
        fault(P + "page", 9);
    }

    /** "anything ahead of it". */
    private static void pageFirst() {
        fault("word 1;" + P, 0);
        fault("  mark 0 0;" + P, 2);
        fault(";" + P, 0);
        fault(" 9 " + P, 1);
        fault("pages" + P, 0);
        fault(" ?" + P, 1);
        fault("\t" + P, 0);
    }

    /** "each ended by ;". */
    private static void itemsEndInSemicolons() {
        fault("page 9 2 word 1;", 9);
        fault(P + "word 1 word 1;", 16);
        fault(P + "word 1 mark 0 0;", 16);
        fault(P + "mark 0 0 word 1;", 18);
        fault(P + ";", 9);
        fault(P + "word 1;;", 16);
        fault("page;", 4);
        fault("page 9;", 6);
    }

    /** "word LENGTH". */
    private static void wordTakesOneNumber() {
        fault(P + "word;", 13);
        fault(P + "word word;", 14);
        fault(P + "word 1 2;", 16);
    }

    /** "mark i KIND". */
    private static void markTakesTwoNumbers() {
        fault(P + "mark;", 13);
        fault(P + "mark 0;", 15);
        fault(P + "mark 0 mark;", 16);
        fault(P + "mark 0 1 2;", 18);
        fault(P + "mark word;", 14);
        fault("page 9 2 1;", 9);
        fault("page page;", 5);
    }

    /** "a word that is none": letters a .. z that stand together are one word. */
    private static void wordsThatAreNone() {
        fault("a", 0);
        fault("pag 9 2;", 0);
        fault("pagee 9 2;", 0);
        fault("ppage 9 2;", 0);
        fault("pageword", 0);
        fault(P + "wor 1;", 9);
        fault(P + "wordd 1;", 9);
        fault(P + "wormark 1;", 9);
        fault(P + "marks 0 1;", 9);
        fault(P + "mar", 9);
        fault(P + "z", 9);
        fault("qage 9 2;", 0);
        fault("pagf 9 2;", 0);
        fault(P + "vord 1;", 9);
        fault(P + "bark 0 1;", 9);
        fault(P + "word a;", 14);
    }

    /** "figures that stand together (a number; of more than 2 it is none)". */
    private static void numbersOfTwoFigures() {
        taken("page 09 02;", 1);
        taken("page 10 9;", 1);
        fault("page 009 2;", 5);
        fault("page 100 2;", 5);
        fault("page 9 002;", 7);
        fault(P + "word 001;", 14);
        fault(P + "mark 000 0;", 14);
        fault(P + "mark 0 000;", 16);
        fault("page 12345678901234567890 2;", 5);
        refused("page 99 2;", 0);
        refused("page 9 99;", 0);
        refused("page 00 2;", 0);
    }

    /** "a byte that begins none": the neighbours of letters, figures, ; and the blank, too. */
    private static void bytesThatBeginNone() {
        for (char c = 0; c < 128; c++) {
            boolean begins = c >= 'a' && c <= 'z' || c >= '0' && c <= '9' || c == ';' || c == ' ';
            if (!begins) {
                fault(c + P, 0);
                fault("page" + c + "9 2;", 4);
                fault("page 9" + c + "2;", 6);
                fault(P + c, 9);
            }
        }
        fault("Page 9 2;", 0);
        fault("pAge 9 2;", 0);
        fault("page -9 2;", 5);
    }

    /** "blanks (32) between": any number, none at the ends needed. */
    private static void blanks() {
        taken("   page   9   2   ;   word   1   ;   ", 2);
        fault("pa ge 9 2;", 0);
        fault("page 9 1 2;", 9);
        fault(P + "wo rd 1;", 9);
    }

    /** What stands together is told by letters and figures, not by blanks. */
    private static void tokensWithoutBlanks() {
        SoldStops s = new SoldStops();
        D.row("no blanks", new long[] {Due.read(s, "page12 3;word7;word8;mark1 5;"), s.count(2), s.count(3), s.of(0, 0),
            s.of(1, 0), s.of(1, 1)}, 4, 12, 3, 7, 8, 5);
        fault("page12;", 6);
        fault("9page 9 2;", 0);
        fault("page 9word 1;", 6);
    }

    /** "A PAGE without a FAULT is told": one with a fault is not, though an item ahead would be refused. */
    private static void faultAheadOfRefusal() {
        fault("page 0 2;word 0;x", 16);
        fault("page 0 2;word 0", 15);
        fault("page 31 10;mark 0 0;;", 20);
    }

    /** "the first ITEM (0 on) that is refused". */
    private static void firstRefusedItem() {
        refused("page 0 2;word 0;", 0);
        refused(P + "word 0;mark 0 9;", 1);
        refused(P + "word 1;word 1;mark 2 0;word 0;", 3);
    }

    /** "as its call is": page. */
    private static void refusedPages() {
        refused("page 0 1;", 0);
        refused("page 31 1;", 0);
        refused("page 1 0;", 0);
        refused("page 1 10;", 0);
        taken("page 30 1;", 1);
        taken("page 1 9;", 1);
    }

    /** "as its call is": word. */
    private static void refusedWords() {
        refused(P + "word 0;", 1);
        refused(P + "word 10;", 1);
        refused(P + "word 99;", 1);
        taken(P + "word 1;", 2);
        taken(P + "word 9;", 2);
    }

    /** "as its call is": FULL, too. */
    private static void thirteenthWord() {
        taken("page9 2;" + "word 1;".repeat(12), 13);
        refused("page9 2;" + "word 1;".repeat(13), 13);
        refused("page9 2;" + "word 1;".repeat(12) + "word 0;", 13);
    }

    /** "a mark as put()": the pieces that have come so far, the kinds. */
    private static void refusedMarks() {
        refused(P + "mark 0 0;", 1);
        refused(P + "mark 0 0;word 1;", 1);
        refused(P + "word 1;mark 1 0;word 1;", 2);
        refused(P + "word 1;mark 0 6;", 2);
        refused(P + "word 1;mark 99 0;", 2);
        refused(P + "word 1;mark 0 99;", 2);
        taken(P + "word 1;mark 0 0;mark 0 5;", 4);
        taken("page9 2;" + "word 1;".repeat(12) + "mark 11 0;", 14);
        refused("page9 2;" + "word 1;".repeat(12) + "mark 12 0;", 13);
    }

    /** "a mark as put()": one that was there is gone, the last one stands. */
    private static void markAsPut() {
        SoldStops s = new SoldStops();
        Due.read(s, P + "word 1;mark 0 1;word 1;mark 0 5;");
        D.row("marks", new long[] {s.of(0, 1), s.of(0, 2), s.of(1, 1), s.count(1)}, 5, 0, -1, 1);
    }

    /** "mark i KIND (free of COSTS)", "(the PURSE, the WEEK 0)". */
    private static void markIsFree() {
        SoldStops s = new SoldStops();
        s.week(3);
        s.purse(999);
        Due.read(s, "page 9 9;word 1;mark 0 3;");
        D.row("purse, week", new long[] {s.of(0, 1), s.count(4), s.count(5), s.costs(3)}, 3, 0, 0, 54);
    }

    /** PIECES 0 .. 11: a text of 12. */
    private static void twelvePieces() {
        SoldStops s = new SoldStops();
        D.row("twelve", new long[] {Due.read(s, Due.PAGE_OF_12), s.count(0), s.count(1), s.of(0, 1), s.of(11, 0), s.of(11, 1),
            s.word(1)}, 15, 12, 2, 0, 1, 5, -4);
    }

    /** "THE PAGE is a TEXT (150 bytes at most)": the last byte counts. */
    private static void longestText() {
        String text = "page 9 2;word 1;" + "mark 0 1;".repeat(14);
        String fill = " ".repeat(150 - text.length() - 1);
        taken(text + fill + " ", 16);
        fault(text + fill + ";", 149);
        taken(text.substring(0, text.length() - 1) + fill + " ;", 16);
        fault(text.substring(0, text.length() - 1) + fill + "  ", 150);
        fault(text.substring(0, text.length() - 1) + fill + " 1", 149);
        fault("p".repeat(150), 0);
        fault("page " + "1".repeat(145), 5);
        fault("page 1 " + ";".repeat(143), 7);
    }

    /** "told anew by these alone": what was before is no more. */
    private static void pageToldAnew() {
        SoldStops s = Due.full();
        D.due("read()", Due.read(s, P + "word 4;"), 2);
        D.row("counts", new long[] {s.count(0), s.count(1), s.count(2), s.count(3), s.count(4), s.count(5), s.count(6),
            s.count(7)}, 1, 0, 9, 2, 0, 0, 0, 0);
        D.row("no mark of before", new long[] {s.of(0, 0), s.of(0, 1), s.of(0, 2), s.of(1, 0), s.breaths()},
            4, -1, 0, -10, 0x7FFFFFFE);
        D.row("no mark behind the next one", new long[] {s.word(1), s.of(1, 1), s.of(1, 2)}, 1, -1, 0);
    }

    /** THE TEXT, THE FRACTION, the IMAGES stay. */
    private static void readLeavesTheRest() {
        SoldStops s = Due.page(9, 1, 9, 9);
        s.put(0, 1);
        s.odds(5);
        s.image(1);
        D.due("read()", Due.read(s, P + "word 4;"), 2);
        D.row("the rest", new long[] {s.part(0), s.part(1), s.count(8), s.read(), s.from(0), s.from(1), s.of(0, 1), s.of(1, 0)},
            1, 2, 16, 2, -3, 1, 1, 9);
    }

    /** "each answer told so below is such a one; ITEMS are none". */
    private static void readIsNoRefusal() {
        SoldStops s = new SoldStops();
        D.row("answers", new long[] {s.read(), Due.read(s, "page 0 1;"), Due.read(s, P + "mark 0 0;"),
            Due.read(s, "page9 2;" + "word 1;".repeat(13))}, -10, -1000, -1001, -1013);
        D.row("status", new long[] {s.status(0), s.status(1), s.status(2)}, 0, 0, 0);
    }

    /** "how many ITEMS": 1 at least, and as often as it is read. */
    private static void readAnswersItems() {
        SoldStops s = new SoldStops();
        D.row("items", new long[] {Due.read(s, "page 1 1;"), s.read(), Due.read(s, P + "word 1;"), s.read(),
            Due.read(s, Due.PAGE_OF_12), s.read()}, 1, 1, 2, 2, 15, 15);
    }
}
