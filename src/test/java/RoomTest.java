import java.lang.management.ManagementFactory;

/** The dearest calls, 512 of them on one object, stay far within the room of a run, and end. */
public final class RoomTest {

    private static final String TEXT = "nodes 4 intervals 4;line 0 1 10 emergency 14;line 0 2 10 emergency 15;"
            + "line 0 3 10;line 1 2 10;line 1 3 10 emergency 11;line 2 3 10;generator 0 3 90;generator 1 50 40;"
            + "generator 2 17 30;generator 3 71 30;generator 3 33 7;demand 0 0 5;demand 0 1 21;demand 0 2 17;"
            + "demand 0 3 24;right 0 0 1 10;right 0 1 2 20;right 0 2 3 30;right 0 3 0 40;right 0 1 3 50;"
            + "right 0 2 0 60;outage 0;";
    private static final long MOST_BYTES = 4_000_000;

    private RoomTest() {
    }

    private static long allocated() {
        com.sun.management.ThreadMXBean bean =
                (com.sun.management.ThreadMXBean) ManagementFactory.getThreadMXBean();
        return bean.getThreadAllocatedBytes(Thread.currentThread().getId());
    }

    public static void main(String[] args) {
        run(); // the machine's own objects for loading classes are not the program's
        long before = allocated();
        run();
        long bytes = allocated() - before;
        System.out.println(bytes + " bytes for 512 calls");
        Check.due("at most " + MOST_BYTES + " bytes", bytes <= MOST_BYTES, true);
        Check.end();
    }

    private static void run() {
        GridPrices prices = new GridPrices();
        Check.put(prices, TEXT);
        prices.load();
        for (int pair = 0; pair < 240; pair++) {
            prices.setDemand(0, pair % 4, 10 + pair % 10);
            Check.due("paid has a denominator", prices.paid(0, 0, 1) > 0, true);
        }
    }
}
