/** Promises 18 to 20: transfer factors and transfer limits. */
public final class FactorsTest {

    private static final String TRIANGLE = "nodes 3 intervals 1;line 0 1 60;line 0 2 100;line 1 2 100;";
    private static final String WHOLE = "nodes 4 intervals 1;line 0 1 10;line 0 2 10;line 0 3 10;line 1 2 10;"
            + "line 1 3 10;line 2 3 10;";

    private FactorsTest() {
    }

    public static void main(String[] args) {
        triangle();
        whole();
        afterOutage();
        transfers();
        wrongFactors();
        wrongOutageFactors();
        wrongTransfers();
        Check.end();
    }

    private static void due(String call, long top, long bottom, long wantTop, long wantBottom) {
        Check.due(call + " part 0", top, wantTop);
        Check.due(call + " part 1", bottom, wantBottom);
    }

    private static void factor(GridPrices prices, int line, int node, long top, long bottom) {
        due("factor " + line + " " + node, prices.factor(line, node, 0), prices.factor(line, node, 1), top, bottom);
    }

    private static void after(GridPrices prices, int line, int node, long top, long bottom) {
        due("outageFactor " + line + " " + node, prices.outageFactor(line, node, 0),
                prices.outageFactor(line, node, 1), top, bottom);
    }

    private static void transfer(GridPrices prices, int from, int to, long top, long bottom) {
        due("transferLimit " + from + " " + to, prices.transferLimit(from, to, 0), prices.transferLimit(from, to, 1),
                top, bottom);
    }

    private static void triangle() {
        GridPrices prices = Check.loaded(TRIANGLE);
        for (int line = 0; line < 3; line++) {
            factor(prices, line, 0, 0, 1);
        }
        factor(prices, 0, 1, -2, 3);
        factor(prices, 1, 1, -1, 3);
        factor(prices, 2, 1, 1, 3);
        factor(prices, 0, 2, -1, 3);
        factor(prices, 1, 2, -2, 3);
        factor(prices, 2, 2, -1, 3);
    }

    private static void whole() {
        GridPrices prices = Check.loaded(WHOLE);
        factor(prices, 0, 1, -1, 2);
        factor(prices, 1, 1, -1, 4);
        factor(prices, 3, 1, 1, 4);
        factor(prices, 5, 1, 0, 1);
        factor(prices, 2, 3, -1, 2);
        factor(prices, 5, 3, -1, 4);
        transfer(prices, 0, 3, 20, 1);
    }

    private static void afterOutage() {
        GridPrices prices = Check.loaded(WHOLE + "outage 0;");
        after(prices, 0, 1, 0, 1);
        after(prices, 1, 1, -1, 2);
        after(prices, 2, 1, -1, 2);
        after(prices, 3, 1, 1, 2);
        after(prices, 1, 2, -5, 8);
        after(prices, 2, 2, -3, 8);
        after(prices, 3, 2, -1, 8);
        after(prices, 5, 2, 1, 4);
        after(prices, 5, 0, 0, 1);
        factor(prices, 0, 1, -1, 2);
        prices.setOutage(5);
        after(prices, 5, 2, 0, 1);
        after(prices, 0, 1, -1, 2);
    }

    private static void transfers() {
        GridPrices prices = Check.loaded(TRIANGLE);
        transfer(prices, 0, 1, 90, 1);
        transfer(prices, 1, 0, 90, 1);
        transfer(prices, 0, 2, 150, 1);
        prices.setLimit(2, 7);
        transfer(prices, 2, 0, 21, 1);
        transfer(prices, 1, 2, 21, 2);
        prices.setOutage(2);
        transfer(prices, 1, 2, 21, 2);
        GridPrices radial = Check.loaded("nodes 4 intervals 1;line 0 1 5;line 1 2 6;line 3 2 4;");
        transfer(radial, 0, 1, 5, 1);
        transfer(radial, 0, 2, 5, 1);
        transfer(radial, 1, 2, 6, 1);
        transfer(radial, 3, 0, 4, 1);
    }

    private static void wrongFactors() {
        GridPrices prices = Check.loaded(TRIANGLE);
        Check.dueIndex("line 3", () -> prices.factor(3, 0, 0));
        Check.dueIndex("line -1", () -> prices.factor(-1, 0, 0));
        Check.dueIndex("node 3", () -> prices.factor(0, 3, 0));
        Check.dueIndex("node -1", () -> prices.factor(0, -1, 0));
        Check.dueIndex("node 3 and part 2", () -> prices.factor(0, 3, 2));
        Check.dueArgument("part 2", () -> prices.factor(0, 0, 2));
        Check.dueArgument("part -1", () -> prices.factor(0, 0, -1));
    }

    private static void wrongOutageFactors() {
        GridPrices prices = Check.loaded(TRIANGLE);
        Check.dueState("no outage", () -> prices.outageFactor(0, 0, 0));
        Check.dueArgument("part 2 and no outage", () -> prices.outageFactor(0, 0, 2));
        Check.dueIndex("line 3 and part 2 and no outage", () -> prices.outageFactor(3, 0, 2));
        Check.dueIndex("node 3 and no outage", () -> prices.outageFactor(0, 3, 0));
        prices.setOutage(1);
        Check.dueIndex("line -1", () -> prices.outageFactor(-1, 0, 0));
        Check.dueIndex("node -1", () -> prices.outageFactor(0, -1, 0));
        Check.dueArgument("part -1", () -> prices.outageFactor(0, 0, -1));
    }

    private static void wrongTransfers() {
        GridPrices prices = Check.loaded(TRIANGLE);
        Check.dueIndex("node 3", () -> prices.transferLimit(3, 0, 0));
        Check.dueIndex("node -1", () -> prices.transferLimit(0, -1, 0));
        Check.dueIndex("node 3 twice", () -> prices.transferLimit(3, 3, 2));
        Check.dueArgument("the same", () -> prices.transferLimit(1, 1, 0));
        Check.dueArgument("part 2", () -> prices.transferLimit(1, 0, 2));
        Check.dueArgument("part -1", () -> prices.transferLimit(1, 0, -1));
    }
}
