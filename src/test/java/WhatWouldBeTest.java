/** Promises 39 to 41: what a line would be worth, the reserve, and the cost of security. */
public final class WhatWouldBeTest {

    private static final String TRIANGLE = "nodes 3 intervals 3;line 0 1 60;line 0 2 100;line 1 2 100;"
            + "generator 0 10 200;generator 1 30 200;demand 0 2 150;demand 1 2 151;demand 2 0 200;demand 2 1 200;"
            + "demand 2 2 1;";

    private WhatWouldBeTest() {
    }

    public static void main(String[] args) {
        lineValues();
        reserves();
        securities();
        wrongInputs();
        Check.end();
    }

    private interface Part {
        long of(int part);
    }

    private static void due(String call, Part got, long top, long bottom) {
        Check.due(call + " part 0", got.of(0), top);
        Check.due(call + " part 1", got.of(1), bottom);
    }

    private static void lineValues() {
        GridPrices prices = Check.loaded(TRIANGLE);
        due("lineValue 1", part -> prices.lineValue(0, 1, part), 0, 1);
        due("lineValue 1", part -> prices.lineValue(1, 1, part), 40, 1);
        due("lineValue 0", part -> prices.lineValue(1, 0, part), 0, 1);
        prices.setDemand(1, 2, 152);
        due("lineValue 1", part -> prices.lineValue(1, 1, part), 60, 1);
        Check.due("nothing has changed", prices.line(1, 2), 100);
        Check.due("nothing has changed", prices.leastCost(1, 0), 1600);
        // The emergency limit grows with the limit only if it would be less.
        GridPrices two = Check.loaded("nodes 2 intervals 1;line 0 1 9;line 0 1 30;generator 0 1 99;generator 1 3 99;"
                + "demand 0 1 40;outage 1;");
        due("both limits", part -> two.lineValue(0, 0, part), 2, 1);
        due("another line", part -> two.lineValue(0, 1, part), 0, 1);
        GridPrices wide = Check.loaded("nodes 2 intervals 1;line 0 1 9 emergency 10;line 0 1 30;generator 0 1 99;"
                + "generator 1 3 99;demand 0 1 40;outage 1;");
        due("only the limit", part -> wide.lineValue(0, 0, part), 0, 1);
        GridPrices most = Check.loaded("nodes 2 intervals 1;line 0 1 200;generator 0 1 200;generator 0 2 50;"
                + "generator 1 9 50;demand 0 1 200;");
        most.setDemand(0, 1, 200);
        due("beyond the greatest limit", part -> most.lineValue(0, 0, part), 0, 1);
    }

    private static void reserves() {
        GridPrices prices = Check.loaded("nodes 2 intervals 2;line 0 1 20;generator 0 5 40;demand 0 1 17;");
        Check.due("up to the limit", prices.reserve(0, 1), 3);
        Check.due("at most 20", prices.reserve(0, 0), 20);
        prices.setDemand(0, 0, 4);
        Check.due("up to the capacity", prices.reserve(0, 0), 19);
        prices.setDemand(0, 0, 3);
        Check.due("just 20", prices.reserve(0, 0), 20);
        Check.due("20 of the line", prices.reserve(1, 1), 20);
        for (int limit = 20; limit >= 1; limit--) {
            prices.setLimit(0, limit);
            Check.due("the limit", prices.reserve(1, 1), limit);
        }
        prices.setDemand(1, 1, 1);
        Check.due("nothing left", prices.reserve(1, 1), 0);
        // Only whole numbers count: 7.5 would be possible.
        GridPrices half = Check.loaded("nodes 3 intervals 1;line 0 1 5;line 0 2 200;line 1 2 200;generator 0 5 40;");
        Check.due("7.5", half.reserve(0, 1), 7);
        Check.due("15", half.reserve(0, 2), 15);
    }

    private static void securities() {
        GridPrices prices = Check.loaded(TRIANGLE);
        due("no outage", part -> prices.securityCost(0, part), 0, 1);
        prices.setDemand(0, 2, 100);
        prices.setOutage(1);
        due("securityCost", part -> prices.securityCost(0, part), 800, 1);
        prices.setOutage(0);
        due("securityCost", part -> prices.securityCost(0, part), 0, 1);
        Check.due("the outage stays", prices.outage(), 0);
    }

    private static void wrongInputs() {
        GridPrices prices = Check.loaded(TRIANGLE);
        Check.dueIndex("lineValue", () -> prices.lineValue(3, 0, 0));
        Check.dueIndex("lineValue", () -> prices.lineValue(-1, 0, 0));
        Check.dueIndex("lineValue", () -> prices.lineValue(2, 3, 2));
        Check.dueIndex("lineValue", () -> prices.lineValue(0, -1, 0));
        Check.dueArgument("lineValue", () -> prices.lineValue(2, 2, 2));
        Check.dueArgument("lineValue", () -> prices.lineValue(0, 2, -1));
        Check.dueState("lineValue", () -> prices.lineValue(2, 2, 0));
        Check.dueIndex("reserve", () -> prices.reserve(3, 0));
        Check.dueIndex("reserve", () -> prices.reserve(-1, 0));
        Check.dueIndex("reserve", () -> prices.reserve(2, 3));
        Check.dueIndex("reserve", () -> prices.reserve(0, -1));
        Check.dueState("reserve", () -> prices.reserve(2, 0));
        Check.dueIndex("securityCost", () -> prices.securityCost(3, 2));
        Check.dueIndex("securityCost", () -> prices.securityCost(-1, 0));
        Check.dueArgument("securityCost", () -> prices.securityCost(2, 2));
        Check.dueArgument("securityCost", () -> prices.securityCost(0, -1));
        Check.dueState("securityCost of an infeasible interval without outage", () -> prices.securityCost(2, 0));
    }
}
