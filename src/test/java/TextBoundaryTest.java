import java.util.TreeSet;

/** THE TEXT at its edges: each range of a number, each greatest count, each error code and its position. */
public final class TextBoundaryTest {

    private static final String HEAD = "nodes 2 intervals 1;";
    private static final String GRID = HEAD + "line 0 1 5;";
    /** Node k has the price 10, 20, 40 or 80, because each makes what it needs and the lines are full. */
    private static final String PRICED = "nodes 4 intervals 1;line 0 1 1;line 0 2 1;line 0 3 1;generator 0 10 99;"
            + "generator 1 20 99;generator 2 40 99;generator 3 80 99;demand 0 0 9;demand 0 1 9;demand 0 2 9;"
            + "demand 0 3 9;";
    private static final int[] COSTS = {10, 20, 40, 80};

    private TextBoundaryTest() {
    }

    public static void main(String[] args) {
        nodes();
        intervals();
        lineNodes();
        limits();
        emergencies();
        generators();
        demands();
        rights();
        outages();
        digits();
        blanks();
        longestTokens();
        numbersOfLines();
        numbersOfGenerators();
        numbersOfRights();
        numbersOfDemands();
        greatestGrid();
        samePosition();
        firstFromTheLeft();
        theEnd();
        everyToken();
        Check.end();
    }

    // ---- good and bad texts

    private static GridPrices good(String text) {
        GridPrices prices = new GridPrices();
        Check.put(prices, text);
        Check.dueAnswer(text, prices::load);
        Check.due(text + ": code", prices.errorCode(), 0);
        Check.due(text + ": position", prices.errorPosition(), GridPrices.NONE);
        return prices;
    }

    private static void bad(int code, int position, String text) {
        GridPrices prices = new GridPrices();
        Check.put(prices, text);
        Check.dueArgument(text, prices::load);
        Check.due(text + ": code", prices.errorCode(), code);
        Check.due(text + ": position", prices.errorPosition(), position);
    }

    /** The error stands where the sign ^ is (it is taken out), or at the end. */
    private static void bad(int code, String marked) {
        String text = marked.replace("^", "");
        bad(code, marked.indexOf('^') < 0 ? text.length() : marked.indexOf('^'), text);
    }

    private interface Answer {
        long of(GridPrices prices, int value);
    }

    /** What stands behind a number, which may depend on it. */
    private interface Rest {
        String of(int value);
    }

    /**
     * Puts numbers at, within and just outside a range between two pieces of text: those outside are refused
     * with code 2 at their first digit, the others loaded and read.
     */
    private static void range(int low, int high, String before, Rest behind, Answer read) {
        TreeSet<Integer> values = new TreeSet<>();
        for (int value : new int[] {0, 1, low - 1, low, low + 1, high - 1, high, high + 1, 999, 1000, 9999}) {
            values.add(Math.max(value, 0));
        }
        for (int value : values) {
            String text = before + value + behind.of(value);
            if (value < low || value > high) {
                bad(2, before.length(), text);
            } else {
                Check.due(text + ": value", read.of(good(text), value), value);
            }
            if (value < 1000) {
                String padded = before + String.format("%04d", value) + behind.of(value);
                if (value < low || value > high) {
                    bad(2, before.length(), padded);
                } else {
                    good(padded);
                }
            }
            bad(1, before.length(), before + String.format("%05d", value) + behind.of(value));
        }
        bad(1, before.length(), before + ";");
        bad(1, before.length(), before + "-1;");
        bad(1, before.length(), before);
    }

    private static void range(int low, int high, String before, String behind, Answer read) {
        range(low, high, before, value -> behind, read);
    }

    /** "There are 2 to 4 nodes". */
    private static void nodes() {
        range(2, 4, "nodes ", value -> " intervals 1;line 0 1 1;"
                + (value > 2 ? "line 0 2 1;" : "") + (value > 3 ? "line 0 3 1;" : ""), (p, v) -> p.count(0));
    }

    /** "1 to 4 intervals". */
    private static void intervals() {
        range(1, 4, "nodes 2 intervals ", ";line 0 1 1;", (p, v) -> p.count(1));
    }

    /** "names no node", "the second node of a line or right is its first one". */
    private static void lineNodes() {
        String[] grids = {"nodes 2 intervals 1;line 0 1 1;", "nodes 3 intervals 1;line 0 1 1;line 0 2 1;",
            "nodes 4 intervals 1;line 0 1 1;line 0 2 1;line 0 3 1;"};
        for (int nodes = 2; nodes <= 4; nodes++) {
            String grid = grids[nodes - 2];
            int last = nodes - 1;
            int next = nodes;
            range(0, last, grid + "line ", value -> " " + (value + 1) % next + " 7;", (p, v) -> p.line(last, 0));
            range(1, last, grid + "line 0 ", " 7;", (p, v) -> p.line(last, 1));
            range(0, last - 1, grid + "line " + last + " ", " 7;", (p, v) -> p.line(last, 1));
            for (int node = 0; node < nodes; node++) {
                bad(2, grid + "line " + node + " ^" + node + " 7;");
                bad(2, grid + "line " + node + " ^000" + node + " 7;");
            }
        }
    }

    /** "its limit, 1 to 200"; "(the limit if it is not given)". */
    private static void limits() {
        range(1, 200, HEAD + "line 0 1 ", ";", (p, v) -> p.line(0, 2));
        range(1, 200, HEAD + "line 1 0 ", ";", (p, v) -> p.line(0, 3));
        range(1, 200, HEAD + "line 1 0 ", "emergency 400;", (p, v) -> p.line(0, 2));
    }

    /** "emergency gives its emergency limit, from the limit to 400". */
    private static void emergencies() {
        for (int limit : new int[] {1, 2, 77, 199, 200}) {
            String before = HEAD + "line 0 1 " + limit + " emergency ";
            range(limit, 400, before, ";", (p, v) -> p.line(0, 3));
            Check.due("the limit stays", good(before + "400;").line(0, 2), limit);
        }
    }

    /** "its node, its cost, 0 to 99, and its capacity, 1 to 200". */
    private static void generators() {
        range(0, 1, GRID + "generator ", " 5 6;", (p, v) -> p.generator(0, 0));
        range(0, 3, PRICED.substring(0, PRICED.indexOf("gen")) + "generator ", " 5 6;", (p, v) -> p.generator(0, 0));
        range(0, 99, GRID + "generator 1 ", " 6;", (p, v) -> p.generator(0, 1));
        range(1, 200, GRID + "generator 1 5 ", ";", (p, v) -> p.generator(0, 2));
    }

    /** "the interval, the node and the demand, 0 to 200". */
    private static void demands() {
        for (int intervals = 1; intervals <= 4; intervals++) {
            String before = "nodes 2 intervals " + intervals + ";line 0 1 5;demand ";
            range(0, intervals - 1, before, " 1 9;", (p, v) -> p.demand(v, 1) == 9 ? v : -1);
        }
        range(0, 1, GRID + "demand 0 ", " 9;", (p, v) -> p.demand(0, v) == 9 ? v : -1);
        range(0, 200, GRID + "demand 0 1 ", ";", (p, v) -> p.demand(0, 1));
        range(0, 200, GRID + "demand 0 1 33;demand 0 1 ", ";", (p, v) -> p.demand(0, 1));
    }

    /** "its holder, 0 to 3, its two nodes, from and to, and its quantity, 1 to 100". */
    private static void rights() {
        range(0, 3, PRICED + "right ", " 2 3 1;", (p, v) -> p.paid(0, v, 0) > 0 ? v : -1);
        range(0, 3, PRICED + "right 0 ", value -> " " + (value + 1) % 4 + " 1;",
                (p, v) -> p.target(0, 0, 0) == COSTS[(v + 1) % 4] - COSTS[v] ? v : -1);
        range(1, 3, PRICED + "right 0 0 ", " 1;", (p, v) -> p.target(0, 0, 0) == COSTS[v] - 10 ? v : -1);
        range(0, 2, PRICED + "right 0 3 ", " 1;", (p, v) -> p.target(0, 0, 0) == COSTS[v] - 80 ? v : -1);
        range(1, 100, PRICED + "right 0 1 3 ", ";", (p, v) -> p.target(0, 0, 0) / 60);
        range(1, 1, GRID + "right 0 0 ", " 1;", (p, v) -> v);
        for (int node = 0; node < 4; node++) {
            bad(2, PRICED + "right 0 " + node + " ^" + node + " 1;");
        }
    }

    /** "outage gives the number of a line": one that there is. */
    private static void outages() {
        for (int lines = 2; lines <= 6; lines++) {
            range(0, lines - 1, HEAD + "line 0 1 5;".repeat(lines) + "outage ", ";", (p, v) -> p.outage());
        }
        Check.due("no outage", good(GRID).outage(), GridPrices.NONE);
    }

    /** "numbers (maximal runs of 1 to 4 digits)", code 1: "a run of more than 4 digits". */
    private static void digits() {
        for (int length = 1; length <= 4; length++) {
            good("nodes " + "0".repeat(length - 1) + "2 intervals 1;line 0 1 1;");
        }
        for (int length = 5; length <= 40; length++) {
            bad(1, "nodes ^" + "0".repeat(length - 1) + "2 intervals 1;line 0 1 1;");
            bad(1, "nodes ^" + "9".repeat(length) + " intervals 1;line 0 1 1;");
        }
        // 2^32 + 2 and 2^64 + 2 are no 2
        bad(1, "nodes ^4294967298 intervals 1;line 0 1 1;");
        bad(1, "nodes ^18446744073709551618 intervals 1;line 0 1 1;");
        bad(1, "nodes ^" + "2".repeat(694));
        bad(1, "^00002");
    }

    /** "Blanks (bytes 10 and 32) may stand before, between and behind tokens", many or none. */
    private static void blanks() {
        good("nodes2intervals1;line0 1 5;");
        good("nodes2intervals1;line0 1 5emergency6;generator0 1 2;demand0 0 1;right0 0 1 1;");
        good("\n\n  nodes\n2\n \nintervals \n1\n;\n line 0\n1\n5 emergency\n6 \n;\n");
        good(" ".repeat(300) + GRID + "\n".repeat(300));
        bad(1, "nodes^9999999intervals1;");
        bad(1, "^no des 2 intervals 1;line 0 1 5;");
        bad(1, "nodes 2 ^inter\nvals 1;line 0 1 5;");
        bad(1, HEAD + "line 01 0^;"); // 01 is one number
    }

    /** "Tokens are as long as possible". */
    private static void longestTokens() {
        bad(1, "^nodesintervals 2 1;");
        bad(1, HEAD + "^lineline 0 1 5;");
        bad(1, HEAD + "^lin");
        bad(1, HEAD + "^lines 0 1 5;");
        bad(1, HEAD + "line 0 1 5 ^emergenc 7;");
        bad(1, HEAD + "line 0 1 5 ^emergencyy 7;");
        bad(1, GRID + "^outag");
        bad(1, GRID + "^" + "z".repeat(600));
        bad(1, "^" + "nodes".repeat(140));
        bad(2, "nodes ^22 intervals 1;");
    }

    /** "at most 6 lines", code 3: "the word of a 7th line"; with no line they do not connect all nodes. */
    private static void numbersOfLines() {
        bad(4, HEAD);
        for (int lines = 1; lines <= 6; lines++) {
            GridPrices prices = new GridPrices();
            Check.put(prices, HEAD + "line 0 1 5;".repeat(lines));
            Check.due("lines", prices.load(), lines);
            Check.due("lines", prices.count(2), lines);
        }
        String six = HEAD + "line 0 1 5;".repeat(6);
        bad(3, six + "^line 0 1 5;");
        bad(3, six + "  \n^line 0 1 5;line 0 1 5;");
        bad(3, six + "^line");
        bad(3, six + "^line 0 0 0;");
        bad(1, six + "^lines");
        bad(1, six + "generator 0 0 1;^line 0 1 5;");
    }

    /** "at most 5 generators", code 3: "a 6th generator". */
    private static void numbersOfGenerators() {
        for (int generators = 0; generators <= 5; generators++) {
            Check.due("generators", good(GRID + "generator 0 1 2;".repeat(generators)).count(3), generators);
        }
        String five = GRID + "generator 0 1 2;".repeat(5);
        bad(3, five + "^generator 0 1 2;");
        bad(3, five + "\n ^generator");
        bad(3, five + "^generator 9 9 9;");
        bad(1, five + "demand 0 0 1;^generator 0 1 2;");
    }

    /** "at most 6 rights", code 3: "a 7th right". */
    private static void numbersOfRights() {
        for (int rights = 0; rights <= 6; rights++) {
            Check.due("rights", good(GRID + "right 0 0 1 1;".repeat(rights)).count(4), rights);
        }
        String six = GRID + "right 0 0 1 1;".repeat(6);
        bad(3, six + "^right 0 0 1 1;");
        bad(3, six + " ^right");
        bad(3, six + "^right 9 9 9 999;");
        bad(1, GRID + "right 0 0 1 1;".repeat(3) + "^demand 0 0 1;");
    }

    /** Of demands there is no greatest number: "of several for the same interval and node the last one counts". */
    private static void numbersOfDemands() {
        StringBuilder text = new StringBuilder("nodes2intervals1;line0 1 5;");
        int last = 0;
        while (text.length() + 13 <= 700) {
            last++;
            text.append("demand0 1 ").append(last).append(";");
        }
        Check.due("many demands", good(text.toString()).demand(0, 1), last);
        GridPrices each = good("nodes 2 intervals 2;line 0 1 5;demand 0 0 1;demand 0 1 2;demand 1 0 3;demand 1 1 4;"
                + "demand 0 1 0;demand 1 0 200;");
        Check.due("demand 0 0", each.demand(0, 0), 1);
        Check.due("demand 0 1", each.demand(0, 1), 0);
        Check.due("demand 1 0", each.demand(1, 0), 200);
        Check.due("demand 1 1", each.demand(1, 1), 4);
        Check.due("0 at first", good(GRID).demand(0, 0), 0);
    }

    /** The greatest number of everything, each with its greatest values, in one text. */
    private static void greatestGrid() {
        StringBuilder text = new StringBuilder("nodes 4 intervals 4;");
        for (String pair : new String[] {"0 1", "0 2", "0 3", "1 2", "1 3", "2 3"}) {
            text.append("line ").append(pair).append(" 200 emergency 400;");
        }
        for (int generator = 0; generator < 5; generator++) {
            text.append("generator 3 99 200;");
        }
        for (int demand = 0; demand < 16; demand++) {
            text.append("demand ").append(demand / 4).append(' ').append(demand % 4).append(" 200;");
        }
        text.append("right 3 3 2 100;".repeat(6)).append("outage 5;");
        GridPrices prices = good(text.toString());
        int[] counts = {4, 4, 6, 5, 6};
        for (int what = 0; what < 5; what++) {
            Check.due("count " + what, prices.count(what), counts[what]);
        }
        Check.due("limit", prices.line(5, 2), 200);
        Check.due("emergency limit", prices.line(5, 3), 400);
        Check.due("from", prices.line(5, 0), 2);
        Check.due("to", prices.line(5, 1), 3);
        Check.due("node", prices.generator(4, 0), 3);
        Check.due("cost", prices.generator(4, 1), 99);
        Check.due("capacity", prices.generator(4, 2), 200);
        Check.due("demand", prices.demand(3, 3), 200);
        Check.due("outage", prices.outage(), 5);
        // Each other node takes 200 of node 3, which is all that the three lines from there can carry.
        Check.due("cost", prices.leastCost(3, 0), 800 * 99);
        Check.due("binding", prices.binding(3, false), 4 + 16 + 32);
        Check.due("price", prices.price(3, 3, 0), 99);
        Check.dueMissing("target", () -> prices.target(3, 5, 0));
        bad(1, text + "^outage 5;");
    }

    /** "of several at the same position, the one with the lowest code". */
    private static void samePosition() {
        String apart = "nodes 4 intervals 1;line 0 1 5;line 2 3 5;";
        // 1 before 4: a token that cannot stand behind lines that do not connect
        for (String wrong : new String[] {";", "5", "55555", "?", "nodes", "intervals", "emergency", "lines", "x"}) {
            bad(1, apart + "^" + wrong);
            bad(1, HEAD + "^" + wrong);
        }
        // only 4: tokens that can stand there, and the end
        for (String next : new String[] {"generator", "demand", "right", "outage"}) {
            bad(4, apart + "^" + next);
            bad(4, apart + " ^" + next + " 99 99 99 99;");
            bad(4, HEAD + "^" + next + "?");
        }
        bad(4, apart);
        // 3 before 4: a 7th line behind six that do not connect
        bad(3, "nodes 3 intervals 1;" + "line 0 1 5;".repeat(6) + "^line 1 2 5;");
        // 1 before 2: a long run of digits that would be out of range as well
        bad(1, HEAD + "line 0 ^77777 5;");
        // 1 before 5, 2 before 5: no number, and the number of no line
        bad(1, GRID + "outage ^00000;");
        bad(2, GRID + "outage ^1;");
        bad(5, GRID + "outage ^0;");
        // 2 once, for a second node that is the first one
        bad(2, HEAD + "line 1 ^1 0;");
    }

    /** "The first error from the left is reported". */
    private static void firstFromTheLeft() {
        bad(1, "^node 9 intervals 9;");
        bad(2, "nodes ^9 intervals 9?");
        bad(2, HEAD + "line ^2 2 0;");
        bad(2, HEAD + "line 0 ^2 0;");
        bad(2, HEAD + "line 0 1 ^0 emergency 0;");
        bad(2, HEAD + "line 0 1 9 emergency ^8?");
        bad(1, HEAD + "line 0 ^? 201;");
        bad(2, "nodes 3 intervals 1;line 0 1 ^201;generator"); // before the lines that do not connect
        bad(4, "nodes 3 intervals 1;line 0 1 5;^generator 3 100 0;");
        bad(2, GRID + "generator ^2 100 0;");
        bad(2, GRID + "generator 0 ^100 0;");
        bad(2, GRID + "demand ^1 2 201;");
        bad(2, GRID + "demand 0 ^2 201;");
        bad(2, GRID + "right ^4 2 2 0;");
        bad(2, GRID + "right 3 ^2 2 0;");
        bad(2, GRID + "right 3 1 ^1 0;");
        bad(2, GRID + "right 3 1 0 ^0?");
        bad(5, GRID + "outage ^0 0;");
        bad(5, GRID + "outage ^0");
        bad(2, GRID + "outage ^9?");
        bad(3, HEAD + "line 0 1 5;".repeat(6) + "^line?");
    }

    /** "the end has the text length as its position", blanks and all. */
    private static void theEnd() {
        String text = "nodes 2 intervals 1;line 0 1 5 emergency 6;generator 0 1 2;demand 0 0 1;right 0 0 1 1;outage 0";
        String cut = "";
        for (String token : text.split("(?<=;)|(?= )")) {
            boolean isWhole = cut.endsWith(";");
            if (!isWhole) {
                bad(1, cut);
                bad(1, cut + "  \n");
            } else if (cut.equals(HEAD)) {
                bad(4, cut);
                bad(4, cut + "  \n");
            } else {
                good(cut);
                good(cut + "  \n");
            }
            cut += token;
        }
        bad(5, text.length() - 1, text);
        bad(1, GRID + "line 0 1 5;outage 0");
        bad(1, GRID + "line 0 1 5;outage 0 ");
    }

    /** Every token of a text with all statements, left out, doubled, put for another one, or the last one. */
    private static void everyToken() {
        String[] texts = {
            "nodes 3 intervals 2;line 0 1 5 emergency 9;line 1 2 6;line 2 0 7;generator 0 1 9;generator 2 3 8;"
                + "demand 0 1 2;demand 1 2 3;right 0 0 1 4;right 3 1 2 5;outage 1;",
            "nodes 4 intervals 1;line 0 1 5;line 2 3 6;generator 0 1 9;demand 0 0 1;right 0 0 1 1;outage 0;",
            "nodes 3 intervals 1;line 0 1 5;line 0 1 5;line 0 1 5;line 0 1 5;line 0 1 5;line 1 2 5;line 0 2 5;",
            "nodes 2 intervals 1;line 0 1 5;right 0 1 0 2;outage 0;",
        };
        String[] others = {"nodes", "intervals", "line", "emergency", "generator", "demand", "right", "outage", ";",
            "0", "1", "2", "3", "4", "200", "201", "401", "12345", "?", "x", "\n"};
        int[] seen = new int[6];
        for (String text : texts) {
            TextOracle whole = new TextOracle(text);
            for (int token = 0; token < whole.tokens.size(); token++) {
                int from = whole.places.get(token);
                String before = text.substring(0, from);
                String behind = text.substring(from + whole.tokens.get(token).length());
                compare(before, seen);
                compare(before + behind, seen);
                compare(before + whole.tokens.get(token) + " " + whole.tokens.get(token) + behind, seen);
                for (String other : others) {
                    compare(before + other + behind, seen);
                    compare(before + " " + other + " " + text.substring(from), seen);
                }
            }
            for (int length = 0; length <= text.length(); length++) {
                compare(text.substring(0, length), seen);
            }
        }
        for (int code = 0; code <= 5; code++) {
            Check.due("code " + code + " is met", seen[code] > 10, true);
        }
    }

    private static void compare(String text, int[] seen) {
        TextOracle oracle = new TextOracle(text);
        oracle.compare(new GridPrices());
        seen[oracle.code]++;
    }
}
