/** Promises 29 to 31: the prices of the nodes. */
public final class PricesTest {

    private static final String TRIANGLE = "nodes 3 intervals 3;line 0 1 60;line 0 2 100;line 1 2 100;"
            + "generator 0 10 200;generator 1 30 200;demand 0 2 150;demand 1 2 50;demand 2 0 200;demand 2 1 200;"
            + "demand 2 2 1;";

    private PricesTest() {
    }

    public static void main(String[] args) {
        prices();
        missing();
        means();
        dearest();
        wrongInputs();
        Check.end();
    }

    private static void price(GridPrices prices, int interval, int node, long top, long bottom) {
        String call = "price " + interval + " " + node;
        Check.due(call + " part 0", prices.price(interval, node, 0), top);
        Check.due(call + " part 1", prices.price(interval, node, 1), bottom);
    }

    private static void prices() {
        GridPrices prices = Check.loaded(TRIANGLE);
        price(prices, 0, 0, 10, 1);
        price(prices, 0, 1, 30, 1);
        price(prices, 0, 2, 50, 1);
        for (int node = 0; node < 3; node++) {
            price(prices, 1, node, 10, 1);
        }
        // Between two limits the price is a fraction: 0.5 more from the cheap one, 0.5 from the dear one.
        GridPrices half = Check.loaded("nodes 3 intervals 1;line 0 1 6;line 0 2 9;line 1 2 9;line 1 2 9;"
                + "generator 0 1 200;generator 2 4 200;demand 0 1 13;");
        price(half, 0, 1, 11, 2);
        // A price may lie below every cost, and below 0, when more demand relieves a line.
        GridPrices negative = Check.loaded("nodes 3 intervals 1;line 0 1 10;line 0 2 200;line 1 2 200;"
                + "generator 0 1 200;generator 1 50 200;demand 0 1 60;");
        price(negative, 0, 0, 1, 1);
        price(negative, 0, 1, 50, 1);
        price(negative, 0, 2, 51, 2);
        GridPrices below = Check.loaded("nodes 3 intervals 1;line 0 1 200;line 2 1 30;line 0 2 200;"
                + "generator 2 1 200;generator 1 50 200;generator 0 2 1;demand 0 1 100;");
        price(below, 0, 2, 1, 1);
        // The demand may be at its greatest value already.
        GridPrices most = Check.loaded("nodes 2 intervals 1;line 0 1 200;generator 1 3 200;generator 0 4 9;"
                + "demand 0 1 200;");
        price(most, 0, 1, 4, 1);
    }

    private static void missing() {
        GridPrices prices = Check.loaded("nodes 2 intervals 1;line 0 1 9;generator 0 5 99;demand 0 1 9;");
        price(prices, 0, 0, 5, 1);
        Check.dueMissing("no price", () -> prices.price(0, 1, 0));
        Check.dueMissing("no mean price", () -> prices.meanPrice(0));
        Check.dueMissing("no dearest node", () -> prices.dearestNode(0));
        prices.setLimit(0, 10);
        price(prices, 0, 1, 5, 1);
        prices.setCapacity(0, 9);
        Check.dueMissing("no price", () -> prices.price(0, 0, 0));
        Check.dueMissing("no price", () -> prices.price(0, 1, 1));
    }

    private static void means() {
        GridPrices prices = Check.loaded(TRIANGLE);
        Check.dueDouble("mean price", prices.meanPrice(0), 50.0);
        prices.setDemand(0, 0, 37);
        Check.dueDouble("mean price", prices.meanPrice(0), 7870.0 / 187.0);
        GridPrices half = Check.loaded("nodes 3 intervals 1;line 0 1 6;line 0 2 9;line 1 2 9;line 1 2 9;"
                + "generator 0 1 200;generator 2 4 200;demand 0 1 13;");
        Check.dueDouble("mean price", half.meanPrice(0), (143.0 / 2.0) / 13.0);
        half.setDemand(0, 1, 0);
        Check.dueMissing("no demand", () -> half.meanPrice(0));
        Check.due("but a dearest node", half.dearestNode(0), 0);
    }

    private static void dearest() {
        GridPrices prices = Check.loaded(TRIANGLE);
        Check.due("dearest", prices.dearestNode(0), 2);
        Check.due("the lowest of several", prices.dearestNode(1), 0);
        GridPrices two = Check.loaded("nodes 3 intervals 1;line 0 1 5;line 1 2 50;generator 0 1 99;generator 2 9 99;"
                + "demand 0 1 40;");
        Check.due("the lowest of two", two.dearestNode(0), 1);
    }

    private static void wrongInputs() {
        GridPrices prices = Check.loaded(TRIANGLE);
        Check.dueIndex("price", () -> prices.price(3, 0, 0));
        Check.dueIndex("price", () -> prices.price(-1, 0, 0));
        Check.dueIndex("price", () -> prices.price(0, -1, 0));
        Check.dueIndex("price", () -> prices.price(2, 3, 2));
        Check.dueArgument("price", () -> prices.price(2, 0, 2));
        Check.dueArgument("price", () -> prices.price(0, 0, -1));
        Check.dueState("price", () -> prices.price(2, 0, 0));
        Check.dueIndex("meanPrice", () -> prices.meanPrice(3));
        Check.dueIndex("meanPrice", () -> prices.meanPrice(-1));
        Check.dueState("meanPrice", () -> prices.meanPrice(2));
        Check.dueIndex("dearestNode", () -> prices.dearestNode(3));
        Check.dueIndex("dearestNode", () -> prices.dearestNode(-1));
        Check.dueState("dearestNode", () -> prices.dearestNode(2));
    }
}
