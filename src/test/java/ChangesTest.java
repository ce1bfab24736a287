/** Promises 12 to 17: the changes and their undoing. */
public final class ChangesTest {

    private static final String TEXT = "nodes 3 intervals 2;line 0 1 60 emergency 70;line 0 2 100;line 2 1 90;"
            + "line 0 1 5;generator 0 10 200;generator 1 30 150;demand 0 2 150;demand 1 0 9;";
    private static final String RADIAL = "nodes 3 intervals 1;line 0 1 60;line 1 2 100;line 2 1 90;";

    private ChangesTest() {
    }

    public static void main(String[] args) {
        limits();
        costs();
        capacities();
        demands();
        outages();
        undoing();
        atMostTen();
        nothingChanges();
        answersFollow();
        Check.end();
    }

    private static void limits() {
        GridPrices prices = Check.loaded(TEXT);
        Check.due("setLimit", prices.setLimit(0, 65), 60);
        Check.due("limit", prices.line(0, 2), 65);
        Check.due("the emergency limit stays", prices.line(0, 3), 70);
        Check.due("setLimit", prices.setLimit(0, 80), 65);
        Check.due("the emergency limit rises", prices.line(0, 3), 80);
        Check.due("setLimit", prices.setLimit(0, 1), 80);
        Check.due("the emergency limit stays", prices.line(0, 3), 80);
        Check.due("setLimit", prices.setLimit(3, 200), 5);
        Check.due("emergency limit", prices.line(3, 3), 200);
        Check.dueIndex("line 4", () -> prices.setLimit(4, 1));
        Check.dueIndex("line -1", () -> prices.setLimit(-1, 1));
        Check.dueIndex("line 4 and limit 0", () -> prices.setLimit(4, 0));
        Check.dueArgument("limit 0", () -> prices.setLimit(3, 0));
        Check.dueArgument("limit 201", () -> prices.setLimit(3, 201));
        Check.due("undo", prices.undo(), 3);
        Check.due("undo", prices.undo(), 2);
        Check.due("limit", prices.line(0, 2), 80);
        Check.due("undo", prices.undo(), 1);
        Check.due("limit", prices.line(0, 2), 65);
        Check.due("the emergency limit is undone too", prices.line(0, 3), 70);
        Check.due("undo", prices.undo(), 0);
        Check.due("limit", prices.line(0, 2), 60);
        Check.due("limit of the other line", prices.line(3, 2), 5);
        Check.due("emergency limit of the other line", prices.line(3, 3), 5);
    }

    private static void costs() {
        GridPrices prices = Check.loaded(TEXT);
        Check.due("setCost", prices.setCost(1, 0), 30);
        Check.due("setCost", prices.setCost(1, 99), 0);
        Check.due("cost", prices.generator(1, 1), 99);
        Check.due("cost of the other", prices.generator(0, 1), 10);
        Check.dueIndex("generator 2", () -> prices.setCost(2, 1));
        Check.dueIndex("generator -1", () -> prices.setCost(-1, 1));
        Check.dueIndex("generator 2 and cost 100", () -> prices.setCost(2, 100));
        Check.dueArgument("cost 100", () -> prices.setCost(1, 100));
        Check.dueArgument("cost -1", () -> prices.setCost(1, -1));
        Check.due("undo", prices.undo(), 1);
        Check.due("cost", prices.generator(1, 1), 0);
        Check.due("undo", prices.undo(), 0);
        Check.due("cost", prices.generator(1, 1), 30);
    }

    private static void capacities() {
        GridPrices prices = Check.loaded(TEXT);
        Check.due("setCapacity", prices.setCapacity(0, 1), 200);
        Check.due("setCapacity", prices.setCapacity(0, 200), 1);
        Check.due("setCapacity", prices.setCapacity(0, 7), 200);
        Check.due("capacity", prices.generator(0, 2), 7);
        Check.dueIndex("generator 2", () -> prices.setCapacity(2, 1));
        Check.dueIndex("generator -1", () -> prices.setCapacity(-1, 1));
        Check.dueIndex("generator 2 and capacity 0", () -> prices.setCapacity(2, 0));
        Check.dueArgument("capacity 0", () -> prices.setCapacity(1, 0));
        Check.dueArgument("capacity 201", () -> prices.setCapacity(1, 201));
        Check.due("undo", prices.undo(), 2);
        Check.due("capacity", prices.generator(0, 2), 200);
    }

    private static void demands() {
        GridPrices prices = Check.loaded(TEXT);
        Check.due("setDemand", prices.setDemand(0, 2, 200), 150);
        Check.due("setDemand", prices.setDemand(1, 2, 3), 0);
        Check.due("setDemand", prices.setDemand(1, 0, 0), 9);
        Check.due("demand", prices.demand(0, 2), 200);
        Check.due("demand", prices.demand(1, 2), 3);
        Check.dueIndex("interval 2", () -> prices.setDemand(2, 0, 1));
        Check.dueIndex("interval -1", () -> prices.setDemand(-1, 0, 1));
        Check.dueIndex("node 3", () -> prices.setDemand(0, 3, 1));
        Check.dueIndex("node -1", () -> prices.setDemand(0, -1, 1));
        Check.dueIndex("node 3 and demand 201", () -> prices.setDemand(0, 3, 201));
        Check.dueArgument("demand 201", () -> prices.setDemand(0, 2, 201));
        Check.dueArgument("demand -1", () -> prices.setDemand(0, 2, -1));
        Check.due("undo", prices.undo(), 2);
        Check.due("demand", prices.demand(1, 0), 9);
        Check.due("undo", prices.undo(), 1);
        Check.due("demand", prices.demand(1, 2), 0);
        Check.due("undo", prices.undo(), 0);
        Check.due("demand", prices.demand(0, 2), 150);
    }

    private static void outages() {
        GridPrices prices = Check.loaded(RADIAL);
        Check.due("setOutage", prices.setOutage(1), GridPrices.NONE);
        Check.due("setOutage", prices.setOutage(2), 1);
        Check.due("outage", prices.outage(), 2);
        Check.dueArgument("a line that is needed", () -> prices.setOutage(0));
        Check.dueIndex("line 3", () -> prices.setOutage(3));
        Check.dueIndex("line -2", () -> prices.setOutage(-2));
        Check.due("outage stays", prices.outage(), 2);
        Check.due("setOutage", prices.setOutage(GridPrices.NONE), 2);
        Check.due("setOutage of none again", prices.setOutage(GridPrices.NONE), GridPrices.NONE);
        Check.due("undo", prices.undo(), 3);
        Check.due("outage", prices.outage(), GridPrices.NONE);
        Check.due("undo", prices.undo(), 2);
        Check.due("outage", prices.outage(), 2);
        Check.due("undo", prices.undo(), 1);
        Check.due("outage", prices.outage(), 1);
        Check.due("factor after the outage", prices.outageFactor(2, 2, 0), 1);
        Check.due("undo", prices.undo(), 0);
        Check.due("outage", prices.outage(), GridPrices.NONE);
        Check.dueState("no outage", () -> prices.outageFactor(2, 2, 0));
    }

    private static void undoing() {
        GridPrices prices = Check.loaded(TEXT);
        Check.dueState("nothing to undo", prices::undo);
        prices.setLimit(0, 60);
        Check.due("a change to the same counts", prices.undo(), 0);
        Check.dueState("nothing to undo", prices::undo);
        prices.setCost(0, 1);
        prices.setCapacity(0, 2);
        prices.setDemand(0, 0, 3);
        Check.due("undo", prices.undo(), 2);
        Check.due("setOutage", prices.setOutage(3), GridPrices.NONE);
        Check.due("undo", prices.undo(), 2);
        Check.due("undo", prices.undo(), 1);
        Check.due("capacity", prices.generator(0, 2), 200);
        Check.due("cost stays", prices.generator(0, 1), 1);
        Check.due("undo", prices.undo(), 0);
        Check.due("cost", prices.generator(0, 1), 10);
    }

    private static void atMostTen() {
        GridPrices prices = Check.loaded(TEXT);
        for (int demand = 1; demand <= 13; demand++) {
            prices.setDemand(0, 0, demand);
        }
        for (int left = 9; left >= 5; left--) {
            Check.due("undo", prices.undo(), left);
        }
        Check.due("demand", prices.demand(0, 0), 8);
        prices.setDemand(0, 0, 50);
        for (int left = 5; left >= 0; left--) {
            Check.due("undo", prices.undo(), left);
        }
        Check.due("demand", prices.demand(0, 0), 3);
        Check.dueState("no more than ten", prices::undo);
        Check.due("demand", prices.demand(0, 0), 3);
    }

    private static void nothingChanges() {
        GridPrices prices = Check.loaded(TEXT);
        prices.setCost(0, 11);
        Check.dueArgument("limit 0", () -> prices.setLimit(0, 0));
        Check.dueIndex("line 9", () -> prices.setOutage(9));
        Check.dueArgument("demand 999", () -> prices.setDemand(0, 0, 999));
        Check.due("only one change", prices.undo(), 0);
    }

    /** The answers follow each change and each undoing at once. */
    private static void answersFollow() {
        GridPrices prices = Check.loaded("nodes 2 intervals 2;line 0 1 50;line 0 1 45;generator 0 10 200;"
                + "generator 1 20 200;demand 0 1 80;demand 1 1 10;");
        Check.due("cost", prices.leastCost(0, 0), 800);
        Check.due("cost", prices.leastCost(1, 0), 100);
        prices.setCost(0, 15);
        Check.due("cost", prices.leastCost(0, 0), 1200);
        prices.setLimit(0, 30);
        Check.due("cost", prices.leastCost(0, 0), 1300);
        prices.setCapacity(0, 55);
        Check.due("cost", prices.leastCost(0, 0), 1325);
        prices.setDemand(0, 1, 90);
        Check.due("cost", prices.leastCost(0, 0), 1525);
        prices.setOutage(0);
        Check.due("cost", prices.leastCost(0, 0), 1575);
        Check.due("price", prices.price(0, 0, 0), 15);
        prices.setOutage(1);
        Check.due("cost", prices.leastCost(0, 0), 1550);
        prices.undo();
        Check.due("cost", prices.leastCost(0, 0), 1575);
        prices.undo();
        prices.undo();
        Check.due("cost", prices.leastCost(0, 0), 1325);
        prices.undo();
        Check.due("cost", prices.leastCost(0, 0), 1300);
        prices.undo();
        prices.undo();
        Check.due("cost", prices.leastCost(0, 0), 800);
        Check.due("cost", prices.leastCost(1, 0), 100);
    }
}
