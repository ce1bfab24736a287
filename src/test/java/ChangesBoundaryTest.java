/** Promises 12 to 17 and CHANGES at their edges: the ranges, the 10th and the 11th change, and their undoing. */
public final class ChangesBoundaryTest {

    private static final String TEXT = "nodes 2 intervals 2;line 0 1 60 emergency 70;line 0 1 100;"
            + "line 1 0 5 emergency 400;"
            + "generator 0 10 150;generator 1 30 100;demand 0 1 20;right 0 0 1 4;";

    /** One kind of change: it is made with a value, and the value can be read. */
    private interface Change {
        int make(GridPrices prices, int value);
    }

    private interface Reading {
        int of(GridPrices prices);
    }

    private record Kind(String name, Change change, Reading reading, int low, int high, int first) {
    }

    private static final Kind[] KINDS = {
        new Kind("setLimit", (p, v) -> p.setLimit(1, v), p -> p.line(1, 2), 1, 200, 100),
        new Kind("setCost", (p, v) -> p.setCost(1, v), p -> p.generator(1, 1), 0, 99, 30),
        new Kind("setCapacity", (p, v) -> p.setCapacity(0, v), p -> p.generator(0, 2), 1, 200, 150),
        new Kind("setDemand", (p, v) -> p.setDemand(0, 1, v), p -> p.demand(0, 1), 0, 200, 20),
        new Kind("setOutage", (p, v) -> p.setOutage(v), p -> p.outage(), -1, 2, -1),
    };

    private ChangesBoundaryTest() {
    }

    public static void main(String[] args) {
        for (Kind kind : KINDS) {
            ranges(kind);
            sameValue(kind);
            for (int changes = 0; changes <= 25; changes++) {
                lastTen(kind, changes);
            }
            roomAgain(kind);
            refusedOnesDoNotCount(kind);
        }
        emergencyLimits();
        emergencyLimitsUndone();
        spareLines();
        mixed();
        undoingIsNoChange();
        refusedUndo();
        questionsAreNoChanges();
        loading();
        Check.end();
    }

    /** The value of the n-th change of a kind: all of them differ from the one before. */
    private static int value(Kind kind, int number) {
        int width = kind.high - kind.low + 1;
        return kind.low + Math.floorMod(kind.first - kind.low + number, width);
    }

    /** "1 to 200", "0 to 99", "0 to 200", "number of a line, or NONE": the ends of each range, the previous value. */
    private static void ranges(Kind kind) {
        GridPrices prices = Check.loaded(TEXT);
        Check.due(kind.name + " to its least", kind.change.make(prices, kind.low), kind.first);
        Check.due(kind.name + " is its least", kind.reading.of(prices), kind.low);
        Check.due(kind.name + " to its greatest", kind.change.make(prices, kind.high), kind.low);
        Check.due(kind.name + " is its greatest", kind.reading.of(prices), kind.high);
        for (int wrong : new int[] {kind.low - 1, kind.high + 1, Integer.MIN_VALUE, Integer.MAX_VALUE}) {
            Class<?> due = kind.name.equals("setOutage") ? IndexOutOfBoundsException.class
                    : IllegalArgumentException.class;
            Check.dueThrow(kind.name + " " + wrong, due, () -> kind.change.make(prices, wrong));
            Check.due(kind.name + " stays", kind.reading.of(prices), kind.high);
        }
        Check.due("undo", prices.undo(), 1);
        Check.due("undo", prices.undo(), 0);
        Check.due(kind.name + " undone", kind.reading.of(prices), kind.first);
    }

    /** "The changes are successful calls": also those that set what is there. */
    private static void sameValue(Kind kind) {
        GridPrices prices = Check.loaded(TEXT);
        for (int change = 0; change < 3; change++) {
            Check.due(kind.name + " to the same", kind.change.make(prices, kind.first), kind.first);
        }
        for (int left = 2; left >= 0; left--) {
            Check.due("undo", prices.undo(), left);
            Check.due(kind.name + " is the same", kind.reading.of(prices), kind.first);
        }
        Check.dueState("undo", prices::undo);
    }

    /** "The last 10 changes since loading can be undone, the latest one first." */
    private static void lastTen(Kind kind, int changes) {
        GridPrices prices = Check.loaded(TEXT);
        for (int number = 1; number <= changes; number++) {
            Check.due(kind.name, kind.change.make(prices, value(kind, number)), value(kind, number - 1));
        }
        int number = changes;
        for (int left = Math.min(changes, 10) - 1; left >= 0; left--) {
            Check.due(kind.name + ": undo of " + changes, prices.undo(), left);
            number--;
            Check.due(kind.name + ": undone", kind.reading.of(prices), value(kind, number));
        }
        for (int more = 0; more < 2; more++) {
            Check.dueState(kind.name + ": no more of " + changes, prices::undo);
            Check.due(kind.name + ": stays", kind.reading.of(prices), value(kind, number));
        }
    }

    /** Behind ten changes and an undoing the next change is the tenth again; the first one is not lost. */
    private static void roomAgain(Kind kind) {
        GridPrices prices = Check.loaded(TEXT);
        for (int number = 1; number <= 10; number++) {
            kind.change.make(prices, value(kind, number));
        }
        Check.due("undo", prices.undo(), 9);
        kind.change.make(prices, value(kind, 10));
        Check.due("undo", prices.undo(), 9);
        Check.due("undo", prices.undo(), 8);
        kind.change.make(prices, value(kind, 9));
        kind.change.make(prices, value(kind, 10));
        kind.change.make(prices, value(kind, 11)); // the eleventh: now the first one is lost
        for (int left = 9; left >= 0; left--) {
            Check.due("undo", prices.undo(), left);
            Check.due(kind.name + " undone", kind.reading.of(prices), value(kind, left + 1));
        }
        Check.dueState("undo", prices::undo);
    }

    /** A refused call is no change: it neither can be undone nor pushes out the first of ten. */
    private static void refusedOnesDoNotCount(Kind kind) {
        GridPrices prices = Check.loaded(TEXT);
        for (int number = 1; number <= 10; number++) {
            kind.change.make(prices, value(kind, number));
            Check.dueIndex("line 3", () -> prices.setLimit(3, 1));
            Check.dueArgument("limit 201", () -> prices.setLimit(2, 201));
            Check.dueArgument("cost -1", () -> prices.setCost(0, -1));
            Check.dueArgument("capacity 0", () -> prices.setCapacity(0, 0));
            Check.dueArgument("demand 201", () -> prices.setDemand(1, 1, 201));
            Check.dueIndex("line -2", () -> prices.setOutage(-2));
        }
        for (int left = 9; left >= 0; left--) {
            Check.due("undo", prices.undo(), left);
            Check.due(kind.name + " undone", kind.reading.of(prices), value(kind, left));
        }
        Check.dueState("undo", prices::undo);
    }

    private static void limits(GridPrices prices, int line, int limit, int emergency) {
        Check.due("limit of " + line, prices.line(line, 2), limit);
        Check.due("emergency limit of " + line, prices.line(line, 3), emergency);
    }

    /** Promise 12: "the emergency limit stays, but becomes the limit if it is less". */
    private static void emergencyLimits() {
        GridPrices prices = Check.loaded(TEXT);
        prices.setLimit(0, 69);
        limits(prices, 0, 69, 70);
        prices.setLimit(0, 70);
        limits(prices, 0, 70, 70);
        prices.setLimit(0, 71);
        limits(prices, 0, 71, 71);
        prices.setLimit(0, 70);
        limits(prices, 0, 70, 71);
        prices.setLimit(0, 1);
        limits(prices, 0, 1, 71);
        prices.setLimit(0, 200);
        limits(prices, 0, 200, 200);
        prices.setLimit(2, 200);
        limits(prices, 2, 200, 400);
        prices.setLimit(1, 99);
        limits(prices, 1, 99, 100);
        prices.setLimit(1, 101);
        limits(prices, 1, 101, 101);
    }

    /** Undoing a limit brings back the emergency limit that stood beside it, also as the tenth one back. */
    private static void emergencyLimitsUndone() {
        GridPrices prices = Check.loaded(TEXT);
        prices.setLimit(0, 199);
        for (int more = 0; more < 9; more++) {
            prices.setLimit(0, 100 + more);
            limits(prices, 0, 100 + more, 199);
        }
        for (int more = 8; more >= 0; more--) {
            limits(prices, 0, 100 + more, 199);
            prices.undo();
        }
        limits(prices, 0, 199, 199);
        Check.due("undo", prices.undo(), 0);
        limits(prices, 0, 60, 70);
        limits(prices, 1, 100, 100);
        limits(prices, 2, 5, 400);
    }

    /** Promise 16: "if the other lines do not connect all nodes"; no such line comes first. */
    private static void spareLines() {
        GridPrices prices = Check.loaded("nodes 4 intervals 1;line 0 1 5;line 1 2 5;line 2 0 5;line 3 0 5;");
        for (int line = 0; line < 3; line++) {
            Check.due("setOutage", prices.setOutage(line), line - 1);
        }
        Check.dueArgument("the only line to node 3", () -> prices.setOutage(3));
        Check.dueIndex("no line", () -> prices.setOutage(4));
        Check.due("it stays", prices.outage(), 2);
        Check.due("the same line again", prices.setOutage(2), 2);
        Check.due("none", prices.setOutage(GridPrices.NONE), 2);
        Check.due("none again", prices.setOutage(GridPrices.NONE), GridPrices.NONE);
        GridPrices single = new GridPrices();
        Check.dueArgument("the only line", () -> single.setOutage(0));
        Check.dueIndex("no line", () -> single.setOutage(1));
        Check.due("none", single.setOutage(GridPrices.NONE), GridPrices.NONE);
        Check.due("undo", single.undo(), 0);
        // Another line may be the outage only instead of the one that is: both together need not be spare.
        GridPrices ring = Check.loaded("nodes 3 intervals 1;line 0 1 5;line 1 2 5;line 2 0 5;outage 0;");
        Check.due("instead of another", ring.setOutage(1), 0);
    }

    /** All kinds in turn: each undoing brings back its own. */
    private static void mixed() {
        GridPrices prices = Check.loaded(TEXT);
        for (int number = 1; number <= 2; number++) {
            for (Kind kind : KINDS) {
                kind.change.make(prices, value(kind, number));
            }
        }
        prices.setDemand(1, 0, 9); // the eleventh
        Check.due("undo", prices.undo(), 9);
        Check.due("demand", prices.demand(1, 0), 0);
        for (int number = 1; number >= 0; number--) {
            for (int kind = 4; kind >= (number == 0 ? 1 : 0); kind--) {
                Check.due("undo", prices.undo(), number * 5 + kind - 1);
                Check.due(KINDS[kind].name, KINDS[kind].reading.of(prices), value(KINDS[kind], number));
            }
        }
        Check.dueState("the first is lost", prices::undo);
        Check.due("the first stays", prices.line(1, 2), value(KINDS[0], 1));
    }

    /** Promise 17: "the latest change that has not been undone": an undoing cannot be undone itself. */
    private static void undoingIsNoChange() {
        GridPrices prices = Check.loaded(TEXT);
        prices.setCost(0, 11);
        prices.setCost(0, 12);
        prices.setCost(0, 13);
        Check.due("undo", prices.undo(), 2);
        Check.due("cost", prices.generator(0, 1), 12);
        Check.due("undo", prices.undo(), 1);
        Check.due("cost", prices.generator(0, 1), 11);
        prices.setCost(0, 14);
        Check.due("undo", prices.undo(), 1);
        Check.due("cost", prices.generator(0, 1), 11);
        Check.due("undo", prices.undo(), 0);
        Check.due("cost", prices.generator(0, 1), 10);
    }

    /** Promise 17: "if there is none": a new object, one just loaded, and one with all undone. */
    private static void refusedUndo() {
        GridPrices prices = new GridPrices();
        Check.dueState("a new object", prices::undo);
        Check.due("setDemand", prices.setDemand(0, 0, 200), 0);
        Check.due("undo", prices.undo(), 0);
        Check.dueState("all undone", prices::undo);
        Check.due("demand", prices.demand(0, 0), 0);
        Check.due("setDemand", prices.setDemand(0, 0, 1), 0);
        Check.due("a refused undo leaves no trace", prices.undo(), 0);
        GridPrices loaded = Check.loaded(TEXT);
        Check.dueState("just loaded", loaded::undo);
    }

    /** What is asked for with one unit more, or without the outage, is no change. */
    private static void questionsAreNoChanges() {
        GridPrices prices = Check.loaded(TEXT + "outage 1;");
        prices.setLimit(0, 61);
        prices.lineValue(0, 0, 0);
        prices.reserve(0, 1);
        prices.price(0, 1, 0);
        prices.securityCost(0, 0);
        prices.congestionCost(0, 0);
        prices.paid(0, 0, 0);
        limits(prices, 0, 61, 70);
        Check.due("demand", prices.demand(0, 1), 20);
        Check.due("outage", prices.outage(), 1);
        Check.due("only one change", prices.undo(), 0);
    }

    /** "since loading": a load clears the changes, a refused one does not. */
    private static void loading() {
        GridPrices prices = Check.loaded(TEXT);
        for (int demand = 1; demand <= 10; demand++) {
            prices.setDemand(0, 0, demand);
        }
        Check.put(prices, TEXT + "?");
        Check.dueArgument("load", prices::load);
        for (int left = 9; left >= 5; left--) {
            Check.due("undo", prices.undo(), left);
        }
        Check.put(prices, TEXT);
        Check.due("load", prices.load(), 3);
        Check.dueState("undo", prices::undo);
        Check.due("setDemand", prices.setDemand(0, 0, 7), 0);
        Check.due("undo", prices.undo(), 0);
        Check.dueState("undo", prices::undo);
    }
}
