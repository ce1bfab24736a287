/** Promises 21 to 28: the dispatch of least cost, its flows, and the lines at their limits. */
public final class DispatchTest {

    private static final String TRIANGLE = "nodes 3 intervals 3;line 0 1 60;line 0 2 100;line 1 2 100;"
            + "generator 0 10 200;generator 1 30 200;demand 0 2 150;demand 1 2 151;demand 2 0 200;demand 2 1 200;"
            + "demand 2 2 1;";

    private DispatchTest() {
    }

    public static void main(String[] args) {
        feasibility();
        costs();
        outputs();
        ties();
        fractions();
        greatestGrid();
        flows();
        flowsAfter();
        bindings();
        loads();
        wrongInputs();
        Check.end();
    }

    private static void due(String call, long top, long bottom, long wantTop, long wantBottom) {
        Check.due(call + " part 0", top, wantTop);
        Check.due(call + " part 1", bottom, wantBottom);
    }

    private static void output(GridPrices prices, int generator, long top, long bottom) {
        due("output " + generator, prices.output(0, generator, 0), prices.output(0, generator, 1), top, bottom);
    }

    private static void feasibility() {
        GridPrices prices = Check.loaded(TRIANGLE);
        Check.due("interval 0", prices.isFeasible(0), true);
        Check.due("interval 1", prices.isFeasible(1), true);
        Check.due("too little capacity", prices.isFeasible(2), false);
        prices.setDemand(2, 2, 0);
        Check.due("all the capacity", prices.isFeasible(2), true);
        Check.dueIndex("interval 3", () -> prices.isFeasible(3));
        Check.dueIndex("interval -1", () -> prices.isFeasible(-1));
        GridPrices narrow = Check.loaded("nodes 2 intervals 1;line 0 1 9;generator 0 1 99;demand 0 1 9;");
        Check.due("just the limit", narrow.isFeasible(0), true);
        narrow.setDemand(0, 1, 10);
        Check.due("above the limit", narrow.isFeasible(0), false);
        narrow.setLimit(0, 10);
        Check.due("just the limit", narrow.isFeasible(0), true);
        GridPrices emergency = Check.loaded("nodes 2 intervals 1;line 0 1 9 emergency 15;line 1 0 9 emergency 14;"
                + "generator 0 1 99;demand 0 1 15;outage 1;");
        Check.due("just the emergency limit", emergency.isFeasible(0), true);
        emergency.setOutage(0);
        Check.due("above the emergency limit", emergency.isFeasible(0), false);
        emergency.setOutage(GridPrices.NONE);
        Check.due("without outage", emergency.isFeasible(0), true);
        GridPrices none = Check.loaded("nodes 2 intervals 1;line 0 1 9;demand 0 1 1;");
        Check.due("no generator", none.isFeasible(0), false);
    }

    private static void costs() {
        GridPrices prices = Check.loaded(TRIANGLE);
        due("leastCost", prices.leastCost(0, 0), prices.leastCost(0, 1), 1500, 1);
        due("leastCost", prices.leastCost(1, 0), prices.leastCost(1, 1), 1550, 1);
        due("congestionCost", prices.congestionCost(0, 0), prices.congestionCost(0, 1), 0, 1);
        due("congestionCost", prices.congestionCost(1, 0), prices.congestionCost(1, 1), 40, 1);
        prices.setDemand(0, 2, 100);
        prices.setOutage(1);
        due("leastCost", prices.leastCost(0, 0), prices.leastCost(0, 1), 1800, 1);
        due("congestionCost", prices.congestionCost(0, 0), prices.congestionCost(0, 1), 800, 1);
    }

    private static void outputs() {
        GridPrices prices = Check.loaded(TRIANGLE);
        output(prices, 0, 150, 1);
        output(prices, 1, 0, 1);
        due("output", prices.output(1, 0, 0), prices.output(1, 0, 1), 149, 1);
        due("output", prices.output(1, 1, 0), prices.output(1, 1, 1), 2, 1);
    }

    /** Of several dispatches of least cost the one with the least output of the first generators. */
    private static void ties() {
        GridPrices prices = Check.loaded("nodes 2 intervals 1;line 0 1 50;generator 0 7 40;generator 1 7 30;"
                + "generator 0 7 20;demand 0 0 30;demand 0 1 45;");
        output(prices, 0, 25, 1);
        output(prices, 1, 30, 1);
        output(prices, 2, 20, 1);
        prices.setDemand(0, 0, 0);
        output(prices, 0, 0, 1);
        output(prices, 1, 25, 1);
        output(prices, 2, 20, 1);
        prices.setLimit(0, 16);
        output(prices, 0, 0, 1);
        output(prices, 1, 29, 1);
        output(prices, 2, 16, 1);
        prices.setCost(0, 0);
        output(prices, 0, 16, 1);
        output(prices, 1, 29, 1);
        output(prices, 2, 0, 1);
    }

    private static void fractions() {
        GridPrices prices = Check.loaded("nodes 3 intervals 1;line 0 1 5;line 0 2 9;line 1 2 9;line 1 2 9;"
                + "generator 0 1 200;generator 2 4 200;demand 0 1 13;");
        due("factor", prices.factor(0, 1, 0), prices.factor(0, 1, 1), -3, 5);
        due("factor", prices.factor(0, 2, 0), prices.factor(0, 2, 1), -2, 5);
        // 13 * 3/5 - x * 2/5 = 5, x = 7
        output(prices, 1, 7, 1);
        prices.setLimit(0, 6);
        output(prices, 0, 17, 2);
        output(prices, 1, 9, 2);
        due("leastCost", prices.leastCost(0, 0), prices.leastCost(0, 1), 53, 2);
        due("congestionCost", prices.congestionCost(0, 0), prices.congestionCost(0, 1), 27, 2);
        due("flow", prices.flow(0, 1, 0), prices.flow(0, 1, 1), 5, 2);
        due("flow", prices.flow(0, 2, 0), prices.flow(0, 2, 1), -7, 2);
    }

    /** With five generators, six lines and an outage even the last line's limit after it is kept. */
    private static void greatestGrid() {
        for (String last : new String[] {"0 1", "1 0"}) {
            GridPrices prices = Check.loaded("nodes 2 intervals 1;" + "line 0 1 10 emergency 400;".repeat(5)
                    + "line " + last + " 10;generator 0 1 200;generator 1 9 5;generator 1 8 5;generator 1 7 5;"
                    + "generator 1 6 5;demand 0 1 60;outage 0;");
            output(prices, 0, 50, 1);
            output(prices, 1, 0, 1);
            output(prices, 2, 0, 1);
            output(prices, 3, 5, 1);
            output(prices, 4, 5, 1);
            Check.due("binding after", prices.binding(0, true), 32);
            Check.due("leastCost", prices.leastCost(0, 0), 115);
        }
    }

    private static void flows() {
        GridPrices prices = Check.loaded(TRIANGLE);
        due("flow 0", prices.flow(0, 0, 0), prices.flow(0, 0, 1), 50, 1);
        due("flow 1", prices.flow(0, 1, 0), prices.flow(0, 1, 1), 100, 1);
        due("flow 2", prices.flow(0, 2, 0), prices.flow(0, 2, 1), 50, 1);
        due("flow 0", prices.flow(1, 0, 0), prices.flow(1, 0, 1), 49, 1);
        due("flow 2", prices.flow(1, 2, 0), prices.flow(1, 2, 1), 51, 1);
        GridPrices back = Check.loaded("nodes 2 intervals 1;line 1 0 9;generator 0 1 99;demand 0 1 9;");
        due("a flow back", back.flow(0, 0, 0), back.flow(0, 0, 1), -9, 1);
    }

    private static void flowsAfter() {
        GridPrices prices = Check.loaded(TRIANGLE.replace("line 0 2 100", "line 0 2 100 emergency 160"));
        Check.dueState("no outage", () -> prices.flowAfter(0, 0, 0));
        prices.setOutage(2);
        due("flowAfter 0", prices.flowAfter(0, 0, 0), prices.flowAfter(0, 0, 1), 0, 1);
        due("flowAfter 1", prices.flowAfter(0, 1, 0), prices.flowAfter(0, 1, 1), 150, 1);
        due("flowAfter 2", prices.flowAfter(0, 2, 0), prices.flowAfter(0, 2, 1), 0, 1);
        due("flowAfter 0", prices.flowAfter(1, 0, 0), prices.flowAfter(1, 0, 1), -2, 1);
        due("flow 2 before", prices.flow(0, 2, 0), prices.flow(0, 2, 1), 50, 1);
        Check.dueState("infeasible", () -> prices.flowAfter(2, 0, 0));
    }

    private static void bindings() {
        GridPrices prices = Check.loaded(TRIANGLE);
        Check.due("binding", prices.binding(0, false), 2);
        Check.due("binding after no outage", prices.binding(0, true), 0);
        Check.dueState("infeasible", () -> prices.binding(2, true));
        Check.dueState("infeasible", () -> prices.binding(2, false));
        Check.dueIndex("interval 3", () -> prices.binding(3, false));
        Check.dueIndex("interval -1", () -> prices.binding(-1, true));
        prices.setLimit(0, 50);
        prices.setLimit(2, 50);
        Check.due("binding", prices.binding(0, false), 7);
        GridPrices two = Check.loaded("nodes 2 intervals 1;line 0 1 9 emergency 15;line 1 0 9 emergency 15;"
                + "generator 0 1 99;demand 0 1 15;outage 0;");
        Check.due("binding", two.binding(0, false), 0);
        Check.due("binding after", two.binding(0, true), 2);
        two.setOutage(1);
        Check.due("binding after", two.binding(0, true), 1);
        two.setDemand(0, 1, 14);
        Check.due("binding after", two.binding(0, true), 0);
        two.setDemand(0, 1, 18);
        Check.dueState("infeasible", () -> two.binding(0, true));
        two.setOutage(GridPrices.NONE);
        Check.due("both, one of them backwards", two.binding(0, false), 3);
    }

    private static void loads() {
        GridPrices prices = Check.loaded(TRIANGLE);
        Check.due("load 0", prices.loadBits(0, 0), Float.floatToIntBits(50f / 60f));
        Check.due("load 1", prices.loadBits(0, 1), Float.floatToIntBits(1f));
        Check.due("load 2", prices.loadBits(0, 2), Float.floatToIntBits(0.5f));
        Check.due("load 2", prices.loadBits(1, 2), Float.floatToIntBits(51f / 100f));
        prices.setDemand(0, 2, 0);
        Check.due("no load", prices.loadBits(0, 2), 0);
        prices.setDemand(0, 2, 1);
        prices.setLimit(2, 200);
        Check.due("a small load", prices.loadBits(0, 2), Float.floatToIntBits((1f / 3f) / 200f));
        GridPrices back = Check.loaded("nodes 3 intervals 1;line 1 0 7;line 0 2 7;line 1 2 7;generator 0 1 99;"
                + "demand 0 1 10;");
        Check.due("a load back", back.loadBits(0, 0), Float.floatToIntBits((20f / 3f) / 7f));
        Check.dueIndex("interval 3", () -> prices.loadBits(3, 0));
        Check.dueIndex("interval -1", () -> prices.loadBits(-1, 0));
        Check.dueIndex("line 3", () -> prices.loadBits(0, 3));
        Check.dueIndex("line -1 of an infeasible interval", () -> prices.loadBits(2, -1));
        Check.dueState("infeasible", () -> prices.loadBits(2, 0));
    }

    private static void wrongInputs() {
        GridPrices prices = Check.loaded(TRIANGLE);
        Check.dueIndex("leastCost", () -> prices.leastCost(3, 2));
        Check.dueIndex("leastCost", () -> prices.leastCost(-1, 0));
        Check.dueArgument("leastCost", () -> prices.leastCost(2, 2));
        Check.dueArgument("leastCost", () -> prices.leastCost(0, -1));
        Check.dueState("leastCost", () -> prices.leastCost(2, 0));
        Check.dueIndex("congestionCost", () -> prices.congestionCost(3, 2));
        Check.dueIndex("congestionCost", () -> prices.congestionCost(-1, 0));
        Check.dueArgument("congestionCost", () -> prices.congestionCost(2, 2));
        Check.dueState("congestionCost", () -> prices.congestionCost(2, 1));
        Check.dueIndex("output", () -> prices.output(3, 0, 0));
        Check.dueIndex("output", () -> prices.output(2, 2, 2));
        Check.dueIndex("output", () -> prices.output(0, -1, 0));
        Check.dueArgument("output", () -> prices.output(2, 1, 2));
        Check.dueState("output", () -> prices.output(2, 1, 1));
        Check.dueIndex("flow", () -> prices.flow(3, 0, 0));
        Check.dueIndex("flow", () -> prices.flow(2, 3, 2));
        Check.dueIndex("flow", () -> prices.flow(0, -1, 0));
        Check.dueArgument("flow", () -> prices.flow(2, 1, 2));
        Check.dueState("flow", () -> prices.flow(2, 1, 1));
        Check.dueIndex("flowAfter", () -> prices.flowAfter(3, 0, 0));
        Check.dueIndex("flowAfter", () -> prices.flowAfter(2, 3, 2));
        Check.dueIndex("flowAfter", () -> prices.flowAfter(0, -1, 0));
        Check.dueArgument("flowAfter", () -> prices.flowAfter(2, 1, 2));
        Check.dueState("flowAfter", () -> prices.flowAfter(2, 1, 1));
    }
}
