/** Promises 29 to 41 at their edges: answers that are 0 / 1 or negative, nodes without a price, no right, no outage. */
public final class SettlementBoundaryTest {

    private static final String PAIR = "nodes 2 intervals 1;line 0 1 9;";
    /** One more unit at node 0 relieves the full line: its price is -48. The flows are 10, -10 and -20. */
    private static final String RELIEF = "nodes 3 intervals 1;line 0 1 10;line 0 2 200;line 1 2 200;generator 2 1 200;"
            + "generator 1 50 200;demand 0 1 100;";
    /** The prices are 8, 11 and 8, those of a whole unit more, and the surplus is -6. */
    private static final String LOSS = "nodes 3 intervals 1;line 2 0 4;line 1 2 1;line 1 0 11;generator 0 8 8;"
            + "generator 1 8 4;generator 2 5 9;demand 0 0 8;demand 0 1 2;demand 0 2 4;";
    /** The line is full: the prices are 1 and 2, and the surplus is 9. */
    private static final String FULL = PAIR + "generator 0 1 200;generator 1 2 200;demand 0 1 30;";
    /** Node 1 has no price (9 come by the line and 5 are made there), nodes 0 and 2 have 5. */
    private static final String PARTLY = "nodes 3 intervals 1;line 0 1 9;line 0 2 50;generator 0 5 99;generator 1 7 5;"
            + "generator 2 6 5;demand 0 1 14;";

    private SettlementBoundaryTest() {
    }

    public static void main(String[] args) {
        leastAndGreatestPrice();
        negativePrice();
        theLastUnit();
        halfAUnitIsNoUnit();
        greatestDemand();
        pricesByInterval();
        noPriceAtAll();
        meanPrices();
        noMeanPrice();
        dearestNodes();
        noDearestNode();
        profits();
        profitsWithoutPrice();
        rents();
        rentsWithoutPrice();
        surpluses();
        rightsThatJustFit();
        rightsAlone();
        targets();
        targetsWithoutPrice();
        fundedAndUnderfunded();
        emptyFund();
        nothingToFund();
        paidToHolders();
        paidWithoutPrice();
        lineValues();
        reserves();
        securityCosts();
        infeasibleIntervals();
        Check.end();
    }

    private static void price(GridPrices prices, int node, long top, long bottom) {
        Check.dueFraction("price " + node, part -> prices.price(0, node, part), top, bottom);
    }

    private static void profit(GridPrices prices, int generator, long top, long bottom) {
        Check.dueFraction("profit " + generator, part -> prices.profit(0, generator, part), top, bottom);
    }

    private static void rent(GridPrices prices, int line, long top, long bottom) {
        Check.dueFraction("rent " + line, part -> prices.rent(0, line, part), top, bottom);
    }

    private static void surplus(GridPrices prices, long top, long bottom) {
        Check.dueFraction("surplus", part -> prices.surplus(0, part), top, bottom);
    }

    private static void target(GridPrices prices, int right, long top, long bottom) {
        Check.dueFraction("target " + right, part -> prices.target(0, right, part), top, bottom);
    }

    private static void ratio(GridPrices prices, long top, long bottom) {
        Check.dueFraction("fundingRatio", part -> prices.fundingRatio(0, part), top, bottom);
    }

    private static void paid(GridPrices prices, int holder, long top, long bottom) {
        Check.dueFraction("paid " + holder, part -> prices.paid(0, holder, part), top, bottom);
    }

    private static void value(GridPrices prices, int line, long top, long bottom) {
        Check.dueFraction("lineValue " + line, part -> prices.lineValue(0, line, part), top, bottom);
    }

    private static void security(GridPrices prices, long top, long bottom) {
        Check.dueFraction("securityCost", part -> prices.securityCost(0, part), top, bottom);
    }

    private static void missing(String call, Check.Part got) {
        Check.dueMissing(call + " part 0", () -> got.of(0));
        Check.dueMissing(call + " part 1", () -> got.of(1));
    }

    // ---- prices

    private static void leastAndGreatestPrice() {
        GridPrices free = Check.loaded(PAIR + "generator 0 0 200;");
        price(free, 0, 0, 1);
        price(free, 1, 0, 1);
        GridPrices dear = Check.loaded(PAIR + "generator 0 99 200;");
        price(dear, 0, 99, 1);
        price(dear, 1, 99, 1);
        // a price that is no cost: the unit comes in parts, and a part of the others' output moves
        GridPrices half = Check.loaded("nodes 3 intervals 1;line 0 1 6;line 0 2 9;line 1 2 9;line 1 2 9;"
                + "generator 0 1 200;generator 2 4 200;demand 0 1 13;");
        price(half, 1, 11, 2);
    }

    private static void negativePrice() {
        GridPrices prices = Check.loaded(RELIEF);
        price(prices, 0, -48, 1);
        price(prices, 1, 50, 1);
        price(prices, 2, 1, 1);
        prices.setCost(0, 0);
        prices.setCost(1, 99);
        price(prices, 0, -99, 1);
        price(prices, 2, 0, 1);
    }

    /** Promise 29: "if it would be infeasible with the greater demand": one unit left, and none. */
    private static void theLastUnit() {
        GridPrices capacity = Check.loaded(PAIR + "generator 1 4 30;demand 0 1 29;");
        price(capacity, 0, 4, 1);
        price(capacity, 1, 4, 1);
        capacity.setDemand(0, 1, 30);
        missing("no capacity", part -> capacity.price(0, 0, part));
        missing("no capacity", part -> capacity.price(0, 1, part));
        GridPrices line = Check.loaded(PAIR + "generator 0 4 30;demand 0 1 8;");
        price(line, 1, 4, 1);
        line.setDemand(0, 1, 9);
        price(line, 0, 4, 1);
        missing("no room on the line", part -> line.price(0, 1, part));
        GridPrices emergency = Check.loaded("nodes 2 intervals 1;line 0 1 9 emergency 12;line 0 1 9 emergency 12;"
                + "generator 0 4 30;demand 0 1 11;outage 0;");
        price(emergency, 1, 4, 1);
        emergency.setDemand(0, 1, 12);
        missing("no room after the outage", part -> emergency.price(0, 1, part));
        emergency.setOutage(GridPrices.NONE);
        price(emergency, 1, 4, 1);
    }

    /** The demand is greater by a whole unit: half a unit of room gives no price. */
    private static void halfAUnitIsNoUnit() {
        GridPrices half = Check.loaded("nodes 3 intervals 1;line 0 1 5;line 0 2 99;line 1 2 99;generator 0 3 200;"
                + "demand 0 1 6;");
        price(half, 1, 3, 1);
        half.setDemand(0, 1, 7);
        missing("half a unit", part -> half.price(0, 1, part));
        price(half, 2, 3, 1); // half of node 1's share of the line: 14/3 and 1/3 are 5
        half.setDemand(0, 2, 1);
        missing("nothing is left", part -> half.price(0, 2, part));
    }

    /** The greater demand may be beyond the range that a demand itself has. */
    private static void greatestDemand() {
        GridPrices prices = Check.loaded("nodes 2 intervals 1;line 0 1 200;generator 1 3 200;generator 0 4 1;"
                + "demand 0 1 200;");
        price(prices, 1, 4, 1);
        Check.due("the demand stays", prices.demand(0, 1), 200);
        Check.due("reserve", prices.reserve(0, 1), 1);
    }

    private static void pricesByInterval() {
        GridPrices prices = Check.loaded("nodes 2 intervals 4;line 0 1 9;generator 0 1 20;generator 1 2 20;"
                + "demand 1 1 9;"
                + "demand 2 1 29;demand 3 1 30;");
        long[] due = {1, 2};
        for (int interval = 0; interval < 2; interval++) {
            Check.due("price in " + interval, prices.price(interval, 1, 0), due[interval]);
        }
        Check.due("price", prices.price(2, 0, 0), 1);
        Check.dueMissing("no price", () -> prices.price(2, 1, 0));
        Check.dueState("infeasible", () -> prices.price(3, 0, 0));
    }

    /** Without a generator no node has a price, and nothing that needs one has an answer. */
    private static void noPriceAtAll() {
        GridPrices prices = new GridPrices();
        missing("price 0", part -> prices.price(0, 0, part));
        missing("price 1", part -> prices.price(0, 1, part));
        missing("rent", part -> prices.rent(0, 0, part));
        missing("surplus", part -> prices.surplus(0, part));
        missing("fundingRatio", part -> prices.fundingRatio(0, part));
        missing("paid", part -> prices.paid(0, 0, part));
        Check.dueMissing("meanPrice", () -> prices.meanPrice(0));
        Check.dueMissing("dearestNode", () -> prices.dearestNode(0));
        value(prices, 0, 0, 1);
        security(prices, 0, 1);
        Check.due("reserve", prices.reserve(0, 0), 0);
    }

    private static void meanPrices() {
        GridPrices free = Check.loaded(PAIR + "generator 0 0 200;demand 0 1 3;");
        Check.dueDouble("a mean of 0", free.meanPrice(0), 0.0);
        GridPrices one = Check.loaded(PAIR + "generator 0 7 200;demand 0 1 1;");
        Check.dueDouble("one unit", one.meanPrice(0), 7.0);
        GridPrices full = Check.loaded(FULL);
        full.setDemand(0, 0, 7);
        Check.dueDouble("two prices", full.meanPrice(0), 67.0 / 37.0);
        GridPrices relief = Check.loaded(RELIEF);
        relief.setDemand(0, 0, 1);
        Check.dueDouble("a negative payment", relief.meanPrice(0), (5000.0 - 48.0) / 101.0);
        GridPrices half = Check.loaded("nodes 3 intervals 1;line 0 1 6;line 0 2 9;line 1 2 9;line 1 2 9;"
                + "generator 0 1 200;generator 2 4 200;demand 0 1 13;");
        Check.dueDouble("a fraction", half.meanPrice(0), (143.0 / 2.0) / 13.0);
    }

    /** Promise 30: "if a node has no price, or if all demands are 0". */
    private static void noMeanPrice() {
        GridPrices full = Check.loaded(FULL);
        full.setDemand(0, 1, 0);
        price(full, 0, 1, 1);
        Check.dueMissing("all demands are 0", () -> full.meanPrice(0));
        full.setDemand(0, 0, 1);
        Check.dueDouble("one demand", full.meanPrice(0), 1.0);
        GridPrices partly = Check.loaded(PARTLY);
        Check.dueMissing("a node with demand has no price", () -> partly.meanPrice(0));
        GridPrices idle = Check.loaded("nodes 3 intervals 1;line 0 1 9;line 0 2 1;generator 0 5 99;generator 2 6 1;"
                + "demand 0 2 2;");
        Check.dueMissing("node 2 has no price", () -> idle.meanPrice(0));
        idle.setDemand(0, 2, 0);
        idle.setDemand(0, 1, 9);
        Check.dueMissing("node 1 has no price", () -> idle.meanPrice(0));
        idle.setDemand(0, 0, 90);
        idle.setDemand(0, 1, 0);
        Check.dueDouble("a node without demand counts nothing", idle.meanPrice(0), 5.0);
        idle.setDemand(0, 0, 98);
        Check.dueDouble("the last cheap unit", idle.meanPrice(0), 5.0);
        idle.setDemand(0, 0, 100);
        Check.dueMissing("no node has a price", () -> idle.meanPrice(0));
    }

    /** Promise 31: "the lowest one of several". */
    private static void dearestNodes() {
        GridPrices same = Check.loaded("nodes 4 intervals 1;line 0 1 9;line 0 2 9;line 0 3 9;generator 3 4 50;");
        Check.due("all the same", same.dearestNode(0), 0);
        String[] dear = {"generator 0 2 99;generator 1 1 99;generator 2 1 99;", "generator 0 1 99;generator 1 2 99;"
                + "generator 2 2 99;", "generator 0 1 99;generator 1 1 99;generator 2 2 99;"};
        for (int node = 0; node < 3; node++) {
            GridPrices prices = Check.loaded("nodes 3 intervals 1;line 0 1 1;line 0 2 1;" + dear[node]
                    + "demand 0 0 20;demand 0 1 20;demand 0 2 20;");
            Check.due("dearest of " + dear[node], prices.dearestNode(0), node);
        }
        Check.due("with a negative one", Check.loaded(RELIEF).dearestNode(0), 1);
        Check.due("0 / 1 everywhere", Check.loaded(PAIR + "generator 1 0 5;").dearestNode(0), 0);
    }

    /** Promise 31: "if a node has no price", whichever. */
    private static void noDearestNode() {
        for (int node : new int[] {0, 1, 2}) {
            StringBuilder text = new StringBuilder("nodes 3 intervals 1;line 0 1 1;line 1 2 1;line 2 0 1;");
            for (int other = 0; other < 3; other++) {
                text.append("generator ").append(other).append(other == node ? " 5 20;" : " 5 50;");
            }
            text.append("demand 0 ").append(node).append(" 22;");
            GridPrices prices = Check.loaded(text.toString());
            missing("no price at " + node, part -> prices.price(0, node, part));
            Check.due("a price elsewhere", prices.price(0, (node + 1) % 3, 0), 5);
            Check.due("a price elsewhere", prices.price(0, (node + 2) % 3, 0), 5);
            Check.dueMissing("no dearest node", () -> prices.dearestNode(0));
            Check.dueMissing("no mean price", () -> prices.meanPrice(0));
            missing("no surplus", part -> prices.surplus(0, part));
            missing("no funding ratio", part -> prices.fundingRatio(0, part));
            missing("nothing paid", part -> prices.paid(0, 0, part));
        }
    }

    // ---- settlement

    private static void profits() {
        GridPrices prices = Check.loaded(PAIR + "generator 0 1 9;generator 0 3 9;generator 0 5 9;generator 0 99 9;");
        long[][] due = {{0, 0, 0, 0}, {0, 0, 0, 0}, {9 * 2, 0, 0, 0}, {9 * 4, 9 * 2, 0, 0}};
        int[] demands = {0, 8, 9, 18};
        for (int step = 0; step < 4; step++) {
            prices.setDemand(0, 0, demands[step]);
            for (int generator = 0; generator < 4; generator++) {
                profit(prices, generator, due[step][generator], 1);
            }
        }
        GridPrices relief = Check.loaded(RELIEF);
        profit(relief, 0, 0, 1);
        profit(relief, 1, 0, 1);
        // An output of 0 makes no profit, however far the price is from the cost.
        GridPrices idle = Check.loaded("nodes 3 intervals 1;line 0 1 10;line 0 2 200;line 1 2 200;generator 2 1 200;"
                + "generator 1 50 200;generator 0 0 1;demand 0 1 100;");
        price(idle, 0, -48, 1);
        Check.due("output", idle.output(0, 2, 0), 0);
        profit(idle, 2, 0, 1);
    }

    /** Promise 32: "if the node of the generator has no price"; other nodes do not matter. */
    private static void profitsWithoutPrice() {
        GridPrices prices = Check.loaded(PARTLY);
        profit(prices, 0, 0, 1);
        missing("profit 1", part -> prices.profit(0, 1, part));
        profit(prices, 2, 0, 1);
        GridPrices after = Check.loaded("nodes 2 intervals 1;line 0 1 9;line 0 1 9;generator 0 5 99;generator 1 7 5;"
                + "demand 0 1 14;outage 0;");
        missing("no price because of the outage", part -> after.profit(0, 1, part));
        profit(after, 0, 0, 1);
        after.setOutage(GridPrices.NONE);
        profit(after, 1, 0, 1);
    }

    private static void rents() {
        GridPrices relief = Check.loaded(RELIEF);
        rent(relief, 0, 980, 1);
        rent(relief, 1, -490, 1);
        rent(relief, 2, 980, 1);
        surplus(relief, 1470, 1);
        // no flow on the bridge between nodes 1 and 3, though their prices differ
        GridPrices bridge = Check.loaded("nodes 4 intervals 1;line 0 1 5;line 1 2 50;line 0 3 50;line 3 2 50;"
                + "line 1 3 50;"
                + "generator 0 1 200;generator 2 50 200;demand 0 2 60;");
        price(bridge, 1, 249, 4);
        price(bridge, 3, 151, 4);
        rent(bridge, 4, 0, 1);
        // a flow, though the prices do not differ
        GridPrices same = Check.loaded(PAIR + "generator 0 4 200;demand 0 1 8;");
        Check.due("flow", same.flow(0, 0, 0), 8);
        rent(same, 0, 0, 1);
        GridPrices none = Check.loaded(PAIR + "generator 0 4 5;generator 1 9 20;demand 0 0 5;");
        Check.due("flow", none.flow(0, 0, 0), 0);
        rent(none, 0, 0, 1);
    }

    /** Promise 33: "if a node of the line has no price", its from node or its to node; others do not matter. */
    private static void rentsWithoutPrice() {
        GridPrices partly = Check.loaded(PARTLY);
        missing("the to node", part -> partly.rent(0, 0, part));
        rent(partly, 1, 0, 1);
        GridPrices turned = Check.loaded(PARTLY.replace("line 0 1", "line 1 0"));
        missing("the from node", part -> turned.rent(0, 0, part));
        rent(turned, 1, 0, 1);
    }

    private static void surpluses() {
        surplus(Check.loaded(FULL), 9, 1);
        GridPrices loose = Check.loaded(FULL);
        loose.setDemand(0, 1, 8);
        surplus(loose, 0, 1);
        loose.setDemand(0, 1, 0);
        surplus(loose, 0, 1);
        surplus(Check.loaded(LOSS), -6, 1);
        GridPrices half = Check.loaded("nodes 3 intervals 1;line 0 1 6;line 0 2 9;line 1 2 9;line 1 2 9;"
                + "generator 0 1 200;generator 2 4 200;demand 0 1 13;");
        surplus(half, 45, 1); // 13 * 11/2 - 17/2 - 18
    }

    // ---- rights

    /** Promise 35: "no flow would be greater than the limit of its line": the limit itself is not. */
    private static void rightsThatJustFit() {
        String[] ends = {"0 1", "1 0"};
        for (String line : ends) {
            for (String right : ends) {
                for (int limit : new int[] {1, 50, 99}) {
                    GridPrices prices = Check.loaded("nodes 2 intervals 1;line " + line + " " + limit + ";"
                            + "right 0 " + right
                            + " " + limit + ";");
                    Check.due("just fits", prices.areRightsFeasible(), true);
                    GridPrices more = Check.loaded("nodes 2 intervals 1;line " + line + " " + limit + ";"
                            + "right 0 " + right
                            + " " + (limit + 1) + ";");
                    Check.due("one more", more.areRightsFeasible(), false);
                }
            }
        }
        GridPrices six = Check.loaded("nodes 2 intervals 1;" + "line 0 1 100;".repeat(6)
                + "right 3 0 1 100;".repeat(6));
        Check.due("six on six", six.areRightsFeasible(), true);
        six.setLimit(5, 99);
        Check.due("one line less", six.areRightsFeasible(), false);
        six.undo();
        Check.due("undone", six.areRightsFeasible(), true);
        GridPrices triangle = Check.loaded("nodes 3 intervals 1;line 0 1 66;line 0 2 99;line 1 2 99;right 0 0 1 100;");
        Check.due("200/3 of 66", triangle.areRightsFeasible(), false);
        triangle.setLimit(0, 67);
        Check.due("200/3 of 67", triangle.areRightsFeasible(), true);
    }

    /** "simultaneously": rights against each other cancel; "the outage does not matter", nor do dispatch and demand. */
    private static void rightsAlone() {
        Check.due("no right", new GridPrices().areRightsFeasible(), true);
        GridPrices opposed = Check.loaded("nodes 2 intervals 1;line 0 1 1;demand 0 1 200;right 0 0 1 100;"
                + "right 1 1 0 99;");
        Check.due("an infeasible interval", opposed.isFeasible(0), false);
        Check.due("all but one cancel", opposed.areRightsFeasible(), true);
        GridPrices two = Check.loaded("nodes 2 intervals 1;line 0 1 1;right 0 0 1 100;right 1 1 0 98;");
        Check.due("all but two cancel", two.areRightsFeasible(), false);
        GridPrices outage = Check.loaded("nodes 2 intervals 1;line 0 1 5 emergency 9;line 0 1 5 emergency 9;"
                + "right 0 0 1 10;"
                + "outage 0;");
        Check.due("the outage does not matter", outage.areRightsFeasible(), true);
        GridPrices emergency = Check.loaded("nodes 2 intervals 1;line 0 1 5 emergency 9;line 0 1 5 emergency 9;"
                + "right 0 0 1 11;");
        Check.due("emergency limits do not help", emergency.areRightsFeasible(), false);
    }

    private static void targets() {
        GridPrices prices = Check.loaded(RELIEF + "right 0 0 1 1;right 0 1 0 1;right 1 2 0 100;right 3 0 2 100;");
        target(prices, 0, 98, 1);
        target(prices, 1, -98, 1);
        target(prices, 2, -4900, 1);
        target(prices, 3, 4900, 1);
        Check.dueIndex("a fifth right", () -> prices.target(0, 4, 0));
        GridPrices none = Check.loaded(PAIR + "generator 0 4 9;right 0 0 1 100;right 0 1 0 100;");
        target(none, 0, 0, 1);
        target(none, 1, 0, 1);
        GridPrices half = Check.loaded("nodes 3 intervals 1;line 0 1 6;line 0 2 9;line 1 2 9;line 1 2 9;"
                + "generator 0 1 200;generator 2 4 200;demand 0 1 13;right 0 1 0 3;right 0 1 0 2;");
        target(half, 0, -27, 2);
        target(half, 1, -9, 1);
    }

    /** Promise 36: "if a node of the right has no price"; other nodes do not matter. */
    private static void targetsWithoutPrice() {
        GridPrices prices = Check.loaded(PARTLY + "right 0 0 2 5;right 0 0 1 5;right 0 1 2 5;right 0 2 0 5;");
        target(prices, 0, 0, 1);
        missing("the to node", part -> prices.target(0, 1, part));
        missing("the from node", part -> prices.target(0, 2, part));
        target(prices, 3, 0, 1);
    }

    /** "If the fund is less than C, the funding ratio is fund / C, otherwise it is 1." */
    private static void fundedAndUnderfunded() {
        int[][] due = {{1, 1, 1}, {8, 1, 1}, {9, 1, 1}, {10, 9, 10}, {18, 1, 2}, {100, 9, 100}};
        for (int[] one : due) {
            GridPrices prices = Check.loaded(FULL + "right 0 0 1 " + one[0] + ";");
            ratio(prices, one[1], one[2]);
            paid(prices, 0, Math.min(one[0], 9), 1);
        }
        // D adds to the fund: 9 and 1 for 10, but not for 11
        GridPrices ten = Check.loaded(FULL + "right 0 0 1 10;right 1 1 0 1;");
        ratio(ten, 1, 1);
        GridPrices eleven = Check.loaded(FULL + "right 0 0 1 11;right 1 1 0 1;");
        ratio(eleven, 10, 11);
        paid(eleven, 0, 10, 1);
        paid(eleven, 1, -1, 1);
        // no surplus, but no target either
        GridPrices loose = Check.loaded(FULL + "right 0 0 1 11;");
        loose.setDemand(0, 1, 8);
        ratio(loose, 1, 1);
    }

    /** "The fund is the surplus plus D, but at least 0": below 0, just 0, and above. */
    private static void emptyFund() {
        int[][] due = {{1, 0, 1}, {2, 0, 1}, {3, 1, 10}, {4, 1, 5}, {11, 9, 10}, {12, 1, 1}, {13, 1, 1}};
        for (int[] one : due) {
            GridPrices prices = Check.loaded(LOSS + "right 0 0 1 10;right 1 1 0 " + one[0] + ";");
            ratio(prices, one[1], one[2]);
            paid(prices, 0, 30 * one[1] / one[2], 1);
            paid(prices, 1, -3 * one[0], 1);
        }
        GridPrices alone = Check.loaded(LOSS + "right 2 0 1 100;");
        ratio(alone, 0, 1);
        paid(alone, 2, 0, 1);
    }

    /** C is 0: the fund is not less, even if it is 0 or there is no right at all. */
    private static void nothingToFund() {
        for (String grid : new String[] {FULL, LOSS, RELIEF, PAIR + "generator 0 0 1;"}) {
            ratio(Check.loaded(grid), 1, 1);
        }
        ratio(Check.loaded(LOSS + "right 0 1 0 1;"), 1, 1);
        ratio(Check.loaded(LOSS + "right 0 0 2 100;"), 1, 1); // a target of 0
        ratio(Check.loaded(FULL + "right 0 1 0 100;"), 1, 1);
    }

    /** Promise 38: "0 / 1 for a holder without rights", "negative if the holder pays". */
    private static void paidToHolders() {
        GridPrices none = Check.loaded(FULL);
        for (int holder = 0; holder < 4; holder++) {
            paid(none, holder, 0, 1);
        }
        GridPrices prices = Check.loaded(FULL + "right 0 0 1 4;right 0 0 1 5;right 3 1 0 100;right 2 0 1 7;"
                + "right 2 1 0 7;");
        ratio(prices, 1, 1);
        paid(prices, 0, 9, 1);
        paid(prices, 1, 0, 1);
        paid(prices, 2, 0, 1);
        paid(prices, 3, -100, 1);
        // only what is positive is cut: 10 are there for 15, and holder 2 owes 1 in full
        GridPrices cut = Check.loaded(FULL + "right 2 0 1 3;right 1 0 1 12;right 2 1 0 1;");
        ratio(cut, 2, 3);
        paid(cut, 1, 8, 1);
        paid(cut, 2, 1, 1);
        GridPrices third = Check.loaded(FULL + "right 0 0 1 1;right 1 0 1 26;");
        ratio(third, 1, 3);
        paid(third, 0, 1, 3);
        GridPrices debt = Check.loaded(LOSS + "right 0 0 1 10;right 0 1 0 1;");
        paid(debt, 0, -3, 1);
        Check.dueIndex("holder 4", () -> debt.paid(0, 4, 0));
        Check.dueIndex("holder -1", () -> debt.paid(0, -1, 0));
    }

    /** Promises 34, 37 and 38: "if a node has no price", even one that no right, demand or holder has to do with. */
    private static void paidWithoutPrice() {
        GridPrices prices = Check.loaded(PARTLY + "right 0 0 2 5;");
        target(prices, 0, 0, 1);
        missing("surplus", part -> prices.surplus(0, part));
        missing("fundingRatio", part -> prices.fundingRatio(0, part));
        for (int holder = 0; holder < 4; holder++) {
            int h = holder;
            missing("paid " + h, part -> prices.paid(0, h, part));
        }
        prices.setDemand(0, 1, 13);
        ratio(prices, 1, 1);
        paid(prices, 0, 0, 1);
    }

    // ---- what would be

    /** Promise 39: "greater by 1 (and also its emergency limit, if that is less than the new limit)". */
    private static void lineValues() {
        GridPrices full = Check.loaded(FULL);
        value(full, 0, 1, 1);
        full.setDemand(0, 1, 9);
        value(full, 0, 0, 1);
        full.setDemand(0, 1, 10);
        value(full, 0, 1, 1);
        full.setDemand(0, 1, 0);
        value(full, 0, 0, 1);
        // beyond the range that a limit itself has
        GridPrices most = Check.loaded("nodes 2 intervals 1;line 0 1 200;generator 0 1 200;generator 0 2 50;"
                + "generator 1 9 50;demand 0 1 200;");
        value(most, 0, 0, 1);
        GridPrices two = Check.loaded("nodes 3 intervals 1;line 0 1 200;line 1 2 200;generator 0 1 200;"
                + "generator 0 2 50;"
                + "generator 1 9 50;demand 0 1 100;demand 0 2 101;");
        value(two, 0, 7, 1);
        Check.due("the limit stays", two.line(0, 2), 200);
        // Half of the unit is of use: the demand is just half a unit more than what fits.
        GridPrices half = Check.loaded("nodes 3 intervals 1;line 0 1 5;line 0 2 99;line 1 2 99;generator 0 0 200;"
                + "generator 1 9 200;demand 0 1 8;");
        value(half, 0, 9, 2);
        half.setDemand(0, 1, 9);
        value(half, 0, 27, 2);
        half.setDemand(0, 1, 10);
        value(half, 0, 27, 2);
        // an emergency limit that is the limit rises with it, a greater one stays
        GridPrices equal = Check.loaded("nodes 2 intervals 1;line 0 1 9;line 0 1 99;generator 0 1 99;generator 1 3 99;"
                + "demand 0 1 40;outage 1;");
        value(equal, 0, 2, 1);
        GridPrices greater = Check.loaded("nodes 2 intervals 1;line 0 1 9 emergency 10;line 0 1 99;generator 0 1 99;"
                + "generator 1 3 99;demand 0 1 40;outage 1;");
        value(greater, 0, 0, 1);
        Check.due("the emergency limit stays", greater.line(0, 3), 10);
    }

    /** Promise 40: "the greatest such number from 0 to 20". */
    private static void reserves() {
        for (int left = 0; left <= 22; left++) {
            GridPrices capacity = Check.loaded("nodes 2 intervals 1;line 0 1 200;generator 0 5 100;demand 0 1 "
                    + (100 - left) + ";");
            Check.due("capacity for " + left, capacity.reserve(0, 0), Math.min(left, 20));
            Check.due("capacity for " + left, capacity.reserve(0, 1), Math.min(left, 20));
            GridPrices line = Check.loaded("nodes 2 intervals 1;line 1 0 40;generator 0 5 200;demand 0 1 "
                    + (40 - left) + ";");
            Check.due("room for " + left, line.reserve(0, 1), Math.min(left, 20));
            Check.due("no line is needed", line.reserve(0, 0), 20);
            GridPrices emergency = Check.loaded("nodes 2 intervals 1;line 1 0 40 emergency 50;line 1 0 40;"
                    + "generator 0 5 200;demand 0 1 " + (50 - left) + ";outage 1;");
            Check.due("room after the outage for " + left, emergency.reserve(0, 1), Math.min(left, 20));
        }
        GridPrices greatest = Check.loaded("nodes 2 intervals 1;line 0 1 9;generator 1 5 200;generator 1 5 200;"
                + "demand 0 1 200;");
        Check.due("beyond the range of a demand", greatest.reserve(0, 1), 20);
        GridPrices relief = Check.loaded(RELIEF);
        Check.due("where more demand helps", relief.reserve(0, 0), 20);
        GridPrices half = Check.loaded("nodes 3 intervals 1;line 0 1 5;line 0 2 99;line 1 2 99;generator 0 3 200;");
        Check.due("7 of 7.5", half.reserve(0, 1), 7);
    }

    /** Promise 41: "0 / 1 if there is no outage". */
    private static void securityCosts() {
        GridPrices prices = Check.loaded("nodes 2 intervals 1;line 0 1 9 emergency 10;line 0 1 9;generator 0 1 99;"
                + "generator 1 3 99;demand 0 1 10;");
        security(prices, 0, 1);
        prices.setOutage(1);
        security(prices, 0, 1); // just the emergency limit
        prices.setDemand(0, 1, 11);
        security(prices, 2, 1);
        prices.setDemand(0, 1, 40);
        security(prices, 16, 1);
        prices.setOutage(0);
        security(prices, 18, 1);
        prices.setOutage(GridPrices.NONE);
        security(prices, 0, 1);
        GridPrices part = Check.loaded("nodes 3 intervals 1;line 0 1 50;line 0 2 50;line 1 2 50;line 0 1 5;"
                + "generator 0 0 200;generator 1 9 200;demand 0 1 14;outage 0;");
        // After the outage two thirds go by line 3: 7.5 fit. Before it, two fifths: 12.5 fit.
        security(part, 45, 1);
        part.setDemand(0, 1, 12);
        security(part, 81, 2);
    }

    /** Each question of these promises about an infeasible interval. */
    private static void infeasibleIntervals() {
        for (String outage : new String[] {"", "outage 1;"}) {
            GridPrices prices = Check.loaded("nodes 2 intervals 2;line 0 1 9;line 0 1 9;generator 0 3 20;demand 1 1 21;"
                    + "right 0 0 1 5;" + outage);
            Check.due("isFeasible", prices.isFeasible(1), false);
            for (int part = 0; part < 2; part++) {
                int p = part;
                Check.dueState("price", () -> prices.price(1, 0, p));
                Check.dueState("profit", () -> prices.profit(1, 0, p));
                Check.dueState("rent", () -> prices.rent(1, 0, p));
                Check.dueState("surplus", () -> prices.surplus(1, p));
                Check.dueState("target", () -> prices.target(1, 0, p));
                Check.dueState("fundingRatio", () -> prices.fundingRatio(1, p));
                Check.dueState("paid", () -> prices.paid(1, 3, p));
                Check.dueState("lineValue", () -> prices.lineValue(1, 0, p));
                Check.dueState("securityCost", () -> prices.securityCost(1, p));
            }
            Check.dueState("meanPrice", () -> prices.meanPrice(1));
            Check.dueState("dearestNode", () -> prices.dearestNode(1));
            Check.dueState("reserve", () -> prices.reserve(1, 0));
            Check.due("the other interval", prices.price(0, 1, 0), 3);
        }
        // A wider line would make it feasible; still there is no least cost to decrease.
        GridPrices narrow = Check.loaded(PAIR + "generator 0 3 20;demand 0 1 10;");
        Check.dueState("lineValue", () -> narrow.lineValue(0, 0, 0));
        narrow.setLimit(0, 10);
        value(narrow, 0, 0, 1);
        // Without the outage it would be feasible.
        GridPrices secure = Check.loaded("nodes 2 intervals 1;line 0 1 9;line 0 1 9;generator 0 3 20;demand 0 1 10;"
                + "outage 0;");
        Check.dueState("securityCost", () -> secure.securityCost(0, 0));
    }
}
