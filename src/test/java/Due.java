/** Counts the answers that are as due, tells those that are not. */
final class Due {
    static final String PAGE_OF_12 = "page 9 2;" + "word 1;".repeat(12) + "mark 0 0;mark 11 5;";

    private final String name;
    private int passed;
    private int failed;

    Due(String name) {
        this.name = name;
    }

    void due(String call, long got, long want) {
        if (got == want) {
            passed++;
        } else {
            failed++;
            System.out.println(name + ": " + call + " answered " + got + ", due is " + want);
        }
    }

    /** All answers of a row, in order. */
    void row(String call, long[] got, long... want) {
        due(call + ", how many", got.length, want.length);
        for (int i = 0; i < Math.min(got.length, want.length); i++) {
            due(call + " [" + i + "]", got[i], want[i]);
        }
    }

    void end() {
        System.out.println(name + ": " + passed + " answers as due, " + failed + " not");
        if (failed > 0) {
            System.exit(1);
        }
    }

    static SoldStops page(int breath, int price, int... lengths) {
        SoldStops s = new SoldStops();
        s.page(breath, price);
        for (int length : lengths) {
            s.word(length);
        }
        return s;
    }

    /** All that can be full is full: pieces, marks, the purse, what was heard, may be undone, the text, the images. */
    static SoldStops full() {
        SoldStops s = page(30, 2, 1, 2, 3, 4, 5, 6, 7, 8, 9, 1, 2, 3);
        for (int i = 0; i < 12; i++) {
            s.put(i, 1);
        }
        for (int i = 0; i < 6; i++) {
            s.heard(SoldStops.NONE);
        }
        s.image(0);
        for (int i = 0; i < 9; i++) {
            s.week(1);
        }
        s.purse(999);
        s.image(1);
        type(s, PAGE_OF_12 + " ".repeat(150 - PAGE_OF_12.length()));
        return s;
    }

    static void type(SoldStops s, String text) {
        s.clear();
        for (int i = 0; i < text.length(); i++) {
            s.type(text.charAt(i));
        }
    }

    static int read(SoldStops s, String text) {
        type(s, text);
        return s.read();
    }
}
