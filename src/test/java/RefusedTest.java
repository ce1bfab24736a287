import java.util.ArrayList;
import java.util.List;
import java.util.NoSuchElementException;
import java.util.TreeSet;

/**
 * EXCEPTIONS: "If several exceptions apply to a call, the one that is named first in its throws clause is
 * thrown. A call that throws an exception changes nothing". Every method with numbers for arguments is asked
 * in several grids with all its numbers at, within and just outside their ranges; which exception is due
 * is told by tables, and everything that can be seen of the object is the same behind a refused call.
 */
public final class RefusedTest {

    /** Twenty bytes that wait in the buffer while the calls are refused. */
    private static final String WAITING = "nodes 2 intervals 1;";
    private static final String REST = "line 0 1 7;";

    private interface Ask {
        Object of(GridPrices prices, int[] arguments);
    }

    /** A method: the kinds of its arguments, what it needs beyond their ranges, and the call itself. */
    private record Method(String name, String kinds, String needs, Ask ask) {
    }

    /** A grid, and what the document says of it: bit sets of lines, of intervals, and of nodes by interval. */
    private record Market(String text, int[] counts, boolean hasOutage, int spareLines, int infeasible, int idle,
            int[] unpriced, String lineEnds, String generatorNodes, String rightEnds) {
    }

    private static final String PAIR = "nodes 3 intervals 4;line 0 1 9 emergency 18;line 0 2 50;"
            + "line 1 0 9 emergency 18;"
            + "generator 0 5 99;generator 1 7 5;demand 0 1 10;demand 1 1 23;demand 2 1 24;"
            + "right 0 0 2 5;right 1 0 1 5;right 3 2 1 4;";

    private static final Market[] MARKETS = {
        // a new object
        new Market("", new int[] {2, 1, 1, 0, 0}, false, 0, 0, 1, new int[] {3}, "01", "", ""),
        // 18 units fit to node 1 and 5 are made there: 23 are the most, 24 too many; nothing in the last interval
        new Market(PAIR + "outage 2;", new int[] {3, 4, 3, 2, 3}, true, 5, 4, 8, new int[] {0, 2, 0, 0}, "010210",
                "01", "020121"),
        new Market(PAIR, new int[] {3, 4, 3, 2, 3}, false, 5, 4, 8, new int[] {0, 2, 0, 0}, "010210", "01", "020121"),
        // no generator: only an interval without demand is feasible, and no node has a price
        new Market("nodes 2 intervals 2;line 0 1 5;line 1 0 5;demand 1 0 1;right 2 0 1 1;", new int[] {2, 2, 2, 0, 1},
                false, 3, 2, 1, new int[] {3, 0}, "0110", "", "01"),
        // the greatest numbers of everything; the capacity is 50, and the demands are 4, 50, 51 and 0
        new Market("nodes 4 intervals 4;line 0 1 190;line 0 2 190;line 0 3 190;line 1 2 190;line 1 3 190;line 2 3 190;"
                + "generator 0 1 10;generator 1 2 10;generator 2 3 10;generator 3 4 10;generator 3 5 10;"
                + "demand 0 3 4;demand 1 0 20;demand 1 1 10;demand 1 2 10;demand 1 3 10;demand 2 0 51;"
                + "right 0 0 1 1;right 1 0 2 1;right 2 0 3 1;right 3 1 2 1;right 3 1 3 1;right 3 3 2 1;outage 5;",
                new int[] {4, 4, 6, 5, 6}, true, 63, 4, 8, new int[] {0, 15, 0, 0}, "010203121323", "01233",
                "010203121332"),
    };

    private static final Method[] METHODS = {
        new Method("truncate", "LENGTH", "BUFFER", (p, a) -> p.truncate(a[0])),
        new Method("count", "WHAT5", "", (p, a) -> p.count(a[0])),
        new Method("line", "LINE WHAT4", "", (p, a) -> p.line(a[0], a[1])),
        new Method("generator", "GENERATOR WHAT3", "", (p, a) -> p.generator(a[0], a[1])),
        new Method("demand", "INTERVAL NODE", "", (p, a) -> p.demand(a[0], a[1])),
        new Method("setLimit", "LINE LIMIT", "CHANGE", (p, a) -> p.setLimit(a[0], a[1])),
        new Method("setCost", "GENERATOR COST", "CHANGE", (p, a) -> p.setCost(a[0], a[1])),
        new Method("setCapacity", "GENERATOR CAPACITY", "CHANGE", (p, a) -> p.setCapacity(a[0], a[1])),
        new Method("setDemand", "INTERVAL NODE DEMAND", "CHANGE", (p, a) -> p.setDemand(a[0], a[1], a[2])),
        new Method("setOutage", "OUTAGE", "CHANGE SPARE", (p, a) -> p.setOutage(a[0])),
        new Method("factor", "LINE NODE PART", "", (p, a) -> p.factor(a[0], a[1], a[2])),
        new Method("outageFactor", "LINE NODE PART", "OUTAGE", (p, a) -> p.outageFactor(a[0], a[1], a[2])),
        new Method("transferLimit", "NODE NODE PART", "DIFFERENT", (p, a) -> p.transferLimit(a[0], a[1], a[2])),
        new Method("isFeasible", "INTERVAL", "", (p, a) -> p.isFeasible(a[0])),
        new Method("leastCost", "INTERVAL PART", "DISPATCH", (p, a) -> p.leastCost(a[0], a[1])),
        new Method("congestionCost", "INTERVAL PART", "DISPATCH", (p, a) -> p.congestionCost(a[0], a[1])),
        new Method("output", "INTERVAL GENERATOR PART", "DISPATCH", (p, a) -> p.output(a[0], a[1], a[2])),
        new Method("flow", "INTERVAL LINE PART", "DISPATCH", (p, a) -> p.flow(a[0], a[1], a[2])),
        new Method("flowAfter", "INTERVAL LINE PART", "DISPATCH OUTAGE", (p, a) -> p.flowAfter(a[0], a[1], a[2])),
        new Method("binding before", "INTERVAL", "DISPATCH", (p, a) -> p.binding(a[0], false)),
        new Method("binding after", "INTERVAL", "DISPATCH", (p, a) -> p.binding(a[0], true)),
        new Method("loadBits", "INTERVAL LINE", "DISPATCH", (p, a) -> p.loadBits(a[0], a[1])),
        new Method("price", "INTERVAL NODE PART", "DISPATCH PRICE", (p, a) -> p.price(a[0], a[1], a[2])),
        new Method("meanPrice", "INTERVAL", "DISPATCH ALL WANTED", (p, a) -> p.meanPrice(a[0])),
        new Method("dearestNode", "INTERVAL", "DISPATCH ALL", (p, a) -> p.dearestNode(a[0])),
        new Method("profit", "INTERVAL GENERATOR PART", "DISPATCH GENERATOR", (p, a) -> p.profit(a[0], a[1], a[2])),
        new Method("rent", "INTERVAL LINE PART", "DISPATCH ENDS", (p, a) -> p.rent(a[0], a[1], a[2])),
        new Method("surplus", "INTERVAL PART", "DISPATCH ALL", (p, a) -> p.surplus(a[0], a[1])),
        new Method("target", "INTERVAL RIGHT PART", "DISPATCH RIGHT", (p, a) -> p.target(a[0], a[1], a[2])),
        new Method("fundingRatio", "INTERVAL PART", "DISPATCH ALL", (p, a) -> p.fundingRatio(a[0], a[1])),
        new Method("paid", "INTERVAL HOLDER PART", "DISPATCH ALL", (p, a) -> p.paid(a[0], a[1], a[2])),
        new Method("lineValue", "INTERVAL LINE PART", "DISPATCH", (p, a) -> p.lineValue(a[0], a[1], a[2])),
        new Method("reserve", "INTERVAL NODE", "DISPATCH", (p, a) -> p.reserve(a[0], a[1])),
        new Method("securityCost", "INTERVAL PART", "DISPATCH", (p, a) -> p.securityCost(a[0], a[1])),
    };

    private final Market market;
    private final String untouched;

    private RefusedTest(Market market) {
        this.market = market;
        this.untouched = everything(prepared());
    }

    public static void main(String[] args) {
        for (Market market : MARKETS) {
            RefusedTest test = new RefusedTest(market);
            for (Method method : METHODS) {
                test.ask(method);
            }
        }
        Check.end();
    }

    // ---- the object and what can be seen of it

    /** The grid with two changes that can be undone, an error that can be read, and a text in the buffer. */
    private GridPrices prepared() {
        GridPrices prices = new GridPrices();
        if (!market.text.isEmpty()) {
            Check.put(prices, market.text);
            prices.load();
        }
        int limit = prices.line(0, 2);
        prices.setLimit(0, limit + 3);
        prices.setLimit(0, limit);
        Check.put(prices, "nodes 2 intervals 7;");
        Check.dueArgument("load", prices::load);
        Check.put(prices, WAITING);
        return prices;
    }

    private static String everything(GridPrices prices) {
        StringBuilder seen = new StringBuilder();
        seen.append(prices.errorCode()).append(' ').append(prices.errorPosition()).append(grid(prices));
        for (int left = 2; left > 0; left--) {
            seen.append("; undo ").append(prices.undo()).append(grid(prices));
        }
        Check.dueState("no third change", prices::undo);
        seen.append("; length ").append(prices.truncate(WAITING.length()));
        Check.dueIndex("no longer", () -> prices.truncate(WAITING.length() + 1));
        prices.append(four(0), four(4), four(8), four(12), four(16));
        seen.append("; load ").append(prices.load()).append(grid(prices));
        return seen.toString();
    }

    private static int four(int at) {
        int value = 0;
        for (int index = at; index < at + 4; index++) {
            value = value << 8 | (index < REST.length() ? REST.charAt(index) : ' ');
        }
        return value;
    }

    private static String grid(GridPrices prices) {
        StringBuilder seen = new StringBuilder();
        for (int what = 0; what < 5; what++) {
            seen.append(' ').append(prices.count(what));
        }
        for (int line = 0; line < prices.count(2); line++) {
            seen.append(" line");
            for (int what = 0; what < 4; what++) {
                seen.append(' ').append(prices.line(line, what));
            }
        }
        for (int generator = 0; generator < prices.count(3); generator++) {
            seen.append(" generator");
            for (int what = 0; what < 3; what++) {
                seen.append(' ').append(prices.generator(generator, what));
            }
        }
        for (int interval = 0; interval < prices.count(1); interval++) {
            seen.append(" demand");
            for (int node = 0; node < prices.count(0); node++) {
                seen.append(' ').append(prices.demand(interval, node));
            }
        }
        return seen.append(" outage ").append(prices.outage()).append(prices.areRightsFeasible()).toString();
    }

    // ---- what is due

    private static boolean isIndex(String kind) {
        return List.of("LINE", "NODE", "GENERATOR", "INTERVAL", "RIGHT", "HOLDER", "OUTAGE", "LENGTH").contains(kind);
    }

    private int[] range(String kind) {
        return switch (kind) {
            case "NODE" -> new int[] {0, market.counts[0] - 1};
            case "INTERVAL" -> new int[] {0, market.counts[1] - 1};
            case "LINE" -> new int[] {0, market.counts[2] - 1};
            case "OUTAGE" -> new int[] {-1, market.counts[2] - 1};
            case "GENERATOR" -> new int[] {0, market.counts[3] - 1};
            case "RIGHT" -> new int[] {0, market.counts[4] - 1};
            case "LENGTH" -> new int[] {0, WAITING.length()};
            case "HOLDER" -> new int[] {0, 3};
            case "PART" -> new int[] {0, 1};
            case "WHAT3" -> new int[] {0, 2};
            case "WHAT4" -> new int[] {0, 3};
            case "WHAT5" -> new int[] {0, 4};
            case "COST" -> new int[] {0, 99};
            case "DEMAND" -> new int[] {0, 200};
            default -> new int[] {1, 200}; // LIMIT, CAPACITY
        };
    }

    private int[] values(String kind) {
        int low = range(kind)[0];
        int high = range(kind)[1];
        TreeSet<Integer> values = new TreeSet<>(List.of(Integer.MIN_VALUE, low - 1, low, high, high + 1,
                Integer.MAX_VALUE));
        for (int value = low; isIndex(kind) && value <= high; value++) {
            values.add(value);
        }
        return values.stream().mapToInt(Integer::intValue).toArray();
    }

    private boolean isOutside(String kind, int value) {
        return value < range(kind)[0] || value > range(kind)[1];
    }

    private Class<?> due(Method method, int[] arguments) {
        String[] kinds = method.kinds.split(" ");
        boolean isNoIndex = false;
        boolean isNoValue = false;
        for (int place = 0; place < kinds.length; place++) {
            boolean isOutside = isOutside(kinds[place], arguments[place]);
            isNoIndex |= isOutside && isIndex(kinds[place]);
            isNoValue |= isOutside && !isIndex(kinds[place]);
        }
        if (isNoIndex) {
            return IndexOutOfBoundsException.class;
        }
        List<String> needs = List.of(method.needs.split(" "));
        boolean isSame = needs.contains("DIFFERENT") && arguments[0] == arguments[1];
        boolean isNeeded = needs.contains("SPARE") && arguments[0] >= 0 && !has(market.spareLines, arguments[0]);
        if (isNoValue || isSame || isNeeded) {
            return IllegalArgumentException.class;
        }
        boolean isInfeasible = needs.contains("DISPATCH") && has(market.infeasible, arguments[0]);
        boolean isWithoutOutage = needs.contains("OUTAGE") && !market.hasOutage;
        if (isInfeasible || isWithoutOutage) {
            return IllegalStateException.class;
        }
        return isMissing(needs, arguments) ? NoSuchElementException.class : null;
    }

    private boolean isMissing(List<String> needs, int[] arguments) {
        if (!needs.contains("DISPATCH")) {
            return false;
        }
        int unpriced = market.unpriced[arguments[0]];
        boolean isMissing = needs.contains("PRICE") && has(unpriced, arguments[1]);
        isMissing |= needs.contains("ALL") && unpriced != 0;
        isMissing |= needs.contains("WANTED") && has(market.idle, arguments[0]);
        isMissing |= needs.contains("GENERATOR") && has(unpriced, market.generatorNodes.charAt(arguments[1]) - '0');
        isMissing |= needs.contains("ENDS") && isMissingAtEnd(market.lineEnds, unpriced, arguments[1]);
        isMissing |= needs.contains("RIGHT") && isMissingAtEnd(market.rightEnds, unpriced, arguments[1]);
        return isMissing;
    }

    private static boolean isMissingAtEnd(String ends, int unpriced, int number) {
        return has(unpriced, ends.charAt(2 * number) - '0') || has(unpriced, ends.charAt(2 * number + 1) - '0');
    }

    private static boolean has(int bits, int number) {
        return (bits >> number & 1) == 1;
    }

    // ---- asking

    private void ask(Method method) {
        String[] kinds = method.kinds.split(" ");
        List<int[]> all = new ArrayList<>(List.of(new int[kinds.length]));
        for (int place = 0; place < kinds.length; place++) {
            List<int[]> more = new ArrayList<>();
            for (int[] arguments : all) {
                for (int value : values(kinds[place])) {
                    int[] copy = arguments.clone();
                    copy[place] = value;
                    more.add(copy);
                }
            }
            all = more;
        }
        for (int[] arguments : all) {
            askOnce(method, arguments);
        }
    }

    private void askOnce(Method method, int[] arguments) {
        StringBuilder call = new StringBuilder(market.text).append(": ").append(method.name);
        for (int argument : arguments) {
            call.append(' ').append(argument);
        }
        GridPrices prices = prepared();
        Class<?> due = due(method, arguments);
        if (due != null) {
            Check.dueThrow(call.toString(), due, () -> method.ask.of(prices, arguments));
        } else {
            Check.dueAnswer(call.toString(), () -> method.ask.of(prices, arguments));
            if (method.needs.equals("BUFFER")) {
                return; // the text is shorter now
            }
            if (method.needs.contains("CHANGE")) {
                Check.due(call + ": undo", prices.undo(), 2);
            }
        }
        Check.dueText(call + ": everything else", everything(prices), untouched);
    }
}
