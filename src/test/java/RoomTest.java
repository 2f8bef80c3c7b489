import java.lang.management.ManagementFactory;

/** All calls of a run live in one room: what an object needs is made with it, a call makes nothing. */
public final class RoomTest {
    private static final Due D = new Due("RoomTest");
    private static final String TEXT = "page 1 2;word 3;";

    public static void main(String[] args) {
        SoldStops s = new SoldStops();
        run(s, 2000);
        com.sun.management.ThreadMXBean threads =
            (com.sun.management.ThreadMXBean) ManagementFactory.getThreadMXBean();
        long before = threads.getCurrentThreadAllocatedBytes();
        run(s, 2000);
        long made = threads.getCurrentThreadAllocatedBytes() - before;
        D.due("no more than a few bytes made by calls: " + made, made < 4096 ? 1 : 0, 1);
        D.end();
    }

    private static void run(SoldStops s, int rounds) {
        for (int round = 0; round < rounds; round++) {
            s.page(9, 2);
            for (int i = 0; i < 7; i++) {
                s.word(i % 5 + 2);
            }
            s.put(1, 0);
            s.purse(99);
            s.buy(2, 1);
            s.sell(2);
            s.week(1);
            s.readOut();
            s.undo();
            s.heard(2);
            s.shorter();
            s.cheapest(9, 1, 3);
            s.reach(30);
            s.order(3);
            s.bid(0, 9, 9, 9, 9, 0);
            s.odds(3);
            s.drawn(7, 60);
            s.image(0);
            s.from(0);
            s.clear();
            for (int i = 0; i < TEXT.length(); i++) {
                s.type(TEXT.charAt(i));
            }
            s.read();
            s.digest();
        }
    }
}
