import java.lang.management.ManagementFactory;

/**
 * The dearest calls, 512 of them on one object, stay far within the room of a run, and end. An object takes 16
 * bytes at the least, so that 4,000,000 bytes are 250,000 objects at the most, of some 600,000, and no more
 * than 4,000,000 fields and elements, of 7.3 million.
 */
public final class RoomTest {

    private static final String TEXT = "nodes 4 intervals 4;line 0 1 10 emergency 14;line 0 2 10 emergency 15;"
            + "line 0 3 10;line 1 2 10;line 1 3 10 emergency 11;line 2 3 10;generator 0 3 90;generator 1 50 40;"
            + "generator 2 17 30;generator 3 71 30;generator 3 33 7;demand 0 0 5;demand 0 1 21;demand 0 2 17;"
            + "demand 0 3 24;right 0 0 1 10;right 0 1 2 20;right 0 2 3 30;right 0 3 0 40;right 0 1 3 50;"
            + "right 0 2 0 60;outage 0;";
    private static final long MOST_BYTES = 4_000_000;

    private interface Question {
        long ask(GridPrices prices, int number);
    }

    private RoomTest() {
    }

    private static long allocated() {
        com.sun.management.ThreadMXBean bean =
                (com.sun.management.ThreadMXBean) ManagementFactory.getThreadMXBean();
        return bean.getThreadAllocatedBytes(Thread.currentThread().getId());
    }

    public static void main(String[] args) {
        measure("a change and paid", 240, (prices, number) -> {
            prices.setDemand(0, number % 4, 10 + number % 10);
            return prices.paid(0, 0, 1);
        });
        measure("a change and binding", 240, (prices, number) -> {
            prices.setDemand(0, number % 4, 10 + number % 10);
            return 1 + prices.binding(0, true);
        });
        measure("binding", 480, (prices, number) -> 1 + prices.binding(0, number % 2 == 0));
        measure("paid", 480, (prices, number) -> prices.paid(0, 0, 1));
        measure("fundingRatio", 480, (prices, number) -> prices.fundingRatio(0, 1));
        measure("flowAfter", 480, (prices, number) -> prices.flowAfter(0, 5, 1));
        measure("load", 22, (prices, number) -> {
            Check.put(prices, TEXT);
            return prices.load();
        });
        Check.end();
    }

    private static void measure(String about, int times, Question question) {
        run(about, times, question); // the machine's own objects for loading classes are not the program's
        long before = allocated();
        run(about, times, question);
        long bytes = allocated() - before;
        System.out.println(about + ": " + bytes + " bytes for 512 calls");
        Check.due(about + ": at most " + MOST_BYTES + " bytes", bytes <= MOST_BYTES, true);
    }

    private static void run(String about, int times, Question question) {
        GridPrices prices = new GridPrices();
        Check.put(prices, TEXT);
        prices.load();
        for (int number = 0; number < times; number++) {
            Check.due(about + " answers", question.ask(prices, number) > 0, true);
        }
    }
}
