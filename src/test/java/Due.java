/** Counts the answers that are as due, tells those that are not. */
final class Due {
    private final String name;
    private int passed;
    private int failed;

    Due(String name) {
        this.name = name;
    }

    void due(String call, long got, long want) {
        if (got == want) {
            passed++;
        } else {
            failed++;
            System.out.println(name + ": " + call + " answered " + got + ", due is " + want);
        }
    }

    /** All answers of a row, in order. */
    void row(String call, long[] got, long... want) {
        due(call + ", how many", got.length, want.length);
        for (int i = 0; i < Math.min(got.length, want.length); i++) {
            due(call + " [" + i + "]", got[i], want[i]);
        }
    }

    void end() {
        System.out.println(name + ": " + passed + " answers as due, " + failed + " not");
        if (failed > 0) {
            System.exit(1);
        }
    }

    static SoldStops page(int breath, int price, int... lengths) {
        SoldStops s = new SoldStops();
        s.page(breath, price);
        for (int length : lengths) {
            s.word(length);
        }
        return s;
    }

    static void type(SoldStops s, String text) {
        s.clear();
        for (int i = 0; i < text.length(); i++) {
            s.type(text.charAt(i));
        }
    }

    static int read(SoldStops s, String text) {
        type(s, text);
        return s.read();
    }
}
