/** Promises 1 and 7 to 11: a new object, and the reports on the grid. */
public final class GridTest {

    private static final String TEXT = "nodes 3 intervals 2;line 0 1 60 emergency 70;line 0 2 100;line 2 1 90;"
            + "generator 0 10 200;generator 1 30 150;demand 0 2 150;demand 1 0 9;"
            + "right 0 0 2 100;right 1 0 1 100;right 2 2 1 50;outage 2;";

    private GridTest() {
    }

    public static void main(String[] args) {
        newObject();
        counts();
        lines();
        generators();
        demands();
        Check.end();
    }

    private static void newObject() {
        GridPrices prices = new GridPrices();
        long[] due = {2, 1, 1, 0, 0};
        for (int what = 0; what < 5; what++) {
            Check.due("count " + what, prices.count(what), due[what]);
        }
        long[] line = {0, 1, 1, 1};
        for (int what = 0; what < 4; what++) {
            Check.due("line " + what, prices.line(0, what), line[what]);
        }
        Check.due("demand", prices.demand(0, 0), 0);
        Check.due("demand", prices.demand(0, 1), 0);
        Check.due("outage", prices.outage(), GridPrices.NONE);
        Check.due("code", prices.errorCode(), 0);
        Check.due("position", prices.errorPosition(), GridPrices.NONE);
        Check.due("append", prices.append(0, 0, 0, 0, 0), 20);
        Check.dueState("undo", prices::undo);
        Check.due("feasible without demand", prices.isFeasible(0), true);
        Check.due("cost", prices.leastCost(0, 0), 0);
        Check.due("cost", prices.leastCost(0, 1), 1);
        Check.due("flow", prices.flow(0, 0, 1), 1);
        Check.dueMissing("price", () -> prices.price(0, 0, 0));
        Check.dueMissing("mean price", () -> prices.meanPrice(0));
        Check.due("reserve", prices.reserve(0, 0), 0);
        Check.due("rights", prices.areRightsFeasible(), true);
        Check.dueArgument("outage of the only line", () -> prices.setOutage(0));
        Check.due("factor", prices.factor(0, 1, 0), -1);
    }

    private static void counts() {
        GridPrices prices = Check.loaded(TEXT);
        long[] due = {3, 2, 3, 2, 3};
        for (int what = 0; what < 5; what++) {
            Check.due("count " + what, prices.count(what), due[what]);
        }
        for (int what : new int[] {-1, 5, Integer.MIN_VALUE, Integer.MAX_VALUE}) {
            Check.dueArgument("count " + what, () -> prices.count(what));
        }
        Check.due("outage", prices.outage(), 2);
    }

    private static void lines() {
        GridPrices prices = Check.loaded(TEXT);
        long[][] due = {{0, 1, 60, 70}, {0, 2, 100, 100}, {2, 1, 90, 90}};
        for (int line = 0; line < 3; line++) {
            for (int what = 0; what < 4; what++) {
                Check.due("line " + line + " " + what, prices.line(line, what), due[line][what]);
            }
        }
        Check.dueIndex("line -1", () -> prices.line(-1, 0));
        Check.dueIndex("line 3", () -> prices.line(3, 0));
        Check.dueIndex("line 3, what 4", () -> prices.line(3, 4));
        Check.dueArgument("what 4", () -> prices.line(2, 4));
        Check.dueArgument("what -1", () -> prices.line(2, -1));
    }

    private static void generators() {
        GridPrices prices = Check.loaded(TEXT);
        long[][] due = {{0, 10, 200}, {1, 30, 150}};
        for (int generator = 0; generator < 2; generator++) {
            for (int what = 0; what < 3; what++) {
                Check.due("generator", prices.generator(generator, what), due[generator][what]);
            }
        }
        Check.dueIndex("generator -1", () -> prices.generator(-1, 0));
        Check.dueIndex("generator 2", () -> prices.generator(2, 0));
        Check.dueIndex("generator 2, what 3", () -> prices.generator(2, 3));
        Check.dueArgument("what 3", () -> prices.generator(1, 3));
        Check.dueArgument("what -1", () -> prices.generator(1, -1));
    }

    private static void demands() {
        GridPrices prices = Check.loaded(TEXT);
        long[][] due = {{0, 0, 150}, {9, 0, 0}};
        for (int interval = 0; interval < 2; interval++) {
            for (int node = 0; node < 3; node++) {
                Check.due("demand", prices.demand(interval, node), due[interval][node]);
            }
        }
        Check.dueIndex("interval 2", () -> prices.demand(2, 0));
        Check.dueIndex("interval -1", () -> prices.demand(-1, 0));
        Check.dueIndex("node 3", () -> prices.demand(0, 3));
        Check.dueIndex("node -1", () -> prices.demand(0, -1));
    }
}
