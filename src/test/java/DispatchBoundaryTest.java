/** Promises 18 to 28 at their edges: factors, flows and dispatches that are 0, negative, just within or beyond. */
public final class DispatchBoundaryTest {

    private static final String PAIR = "nodes 2 intervals 1;line 0 1 9;";
    private static final String RING = "nodes 4 intervals 1;line 0 1 4;line 1 2 4;line 2 3 4;line 3 0 4;";

    private DispatchBoundaryTest() {
    }

    public static void main(String[] args) {
        lowestTerms();
        factorOfNodeZero();
        factorsOfFewAndManyLines();
        factorOfOutageItself();
        noOutageAnyMore();
        leastAndGreatestTransfer();
        transferWithoutOutage();
        nothingToServe();
        noGenerator();
        justEnoughCapacity();
        justEnoughLimit();
        justEnoughEmergency();
        outageWithoutFlow();
        leastAndGreatestCost();
        congestionCosts();
        outputsAtTheirEnds();
        tiesOfMany();
        flowsAtTheirEnds();
        flowsAfterAtTheirEnds();
        bindingAndAlmostBinding();
        bindingAfter();
        loadsOfWholeFlows();
        loadsOfFractions();
        infeasibleIntervals();
        Check.end();
    }

    private static void output(GridPrices prices, int generator, long top, long bottom) {
        Check.dueFraction("output " + generator, part -> prices.output(0, generator, part), top, bottom);
    }

    private static void cost(GridPrices prices, long top, long bottom) {
        Check.dueFraction("leastCost", part -> prices.leastCost(0, part), top, bottom);
    }

    private static void flow(GridPrices prices, int line, long top, long bottom) {
        Check.dueFraction("flow " + line, part -> prices.flow(0, line, part), top, bottom);
    }

    private static void after(GridPrices prices, int line, long top, long bottom) {
        Check.dueFraction("flowAfter " + line, part -> prices.flowAfter(0, line, part), top, bottom);
    }

    private static void factor(GridPrices prices, int line, int node, long top, long bottom) {
        Check.dueFraction("factor " + line + " " + node, part -> prices.factor(line, node, part), top, bottom);
    }

    private static void outageFactor(GridPrices prices, int line, int node, long top, long bottom) {
        Check.dueFraction("outageFactor " + line + " " + node, part -> prices.outageFactor(line, node, part), top,
                bottom);
    }

    private static void transfer(GridPrices prices, int from, int to, long top, long bottom) {
        Check.dueFraction("transferLimit", part -> prices.transferLimit(from, to, part), top, bottom);
        Check.dueFraction("transferLimit back", part -> prices.transferLimit(to, from, part), top, bottom);
    }

    // ---- factors

    /** "in lowest terms and with a positive denominator": the ring has four trees, and 2 of 4 are 1 of 2. */
    private static void lowestTerms() {
        GridPrices ring = Check.loaded(RING);
        factor(ring, 0, 1, -3, 4);
        factor(ring, 1, 1, 1, 4);
        factor(ring, 0, 2, -1, 2);
        factor(ring, 2, 2, 1, 2);
        factor(ring, 3, 3, 3, 4);
        factor(ring, 0, 3, -1, 4);
    }

    /** "(for node 0 it is 0)", and "0 is 0 / 1". */
    private static void factorOfNodeZero() {
        GridPrices ring = Check.loaded(RING + "outage 2;");
        for (int line = 0; line < 4; line++) {
            factor(ring, line, 0, 0, 1);
            outageFactor(ring, line, 0, 0, 1);
        }
        // A line that is on no way from the node to node 0 has the factor 0 as well.
        GridPrices star = Check.loaded("nodes 4 intervals 1;line 0 1 4;line 2 0 4;line 0 3 4;");
        for (int line = 0; line < 3; line++) {
            for (int node = 1; node < 4; node++) {
                factor(star, line, node, line + 1 != node ? 0 : line == 1 ? 1 : -1, 1);
            }
        }
    }

    /** "Several lines may connect the same nodes": one line carries all, of six lines each a sixth. */
    private static void factorsOfFewAndManyLines() {
        factor(new GridPrices(), 0, 1, -1, 1);
        factor(Check.loaded("nodes 2 intervals 1;line 1 0 4;"), 0, 1, 1, 1);
        GridPrices six = Check.loaded("nodes 2 intervals 1;" + "line 0 1 4;line 1 0 4;".repeat(3) + "outage 5;");
        for (int line = 0; line < 6; line++) {
            factor(six, line, 1, line % 2 == 0 ? -1 : 1, 6);
            outageFactor(six, line, 1, line == 5 ? 0 : line % 2 == 0 ? -1 : 1, line == 5 ? 1 : 5);
        }
        GridPrices whole = Check.loaded("nodes 4 intervals 1;line 0 1 4;line 0 2 4;line 0 3 4;line 1 2 4;line 1 3 4;"
                + "line 2 3 4;outage 5;");
        factor(whole, 5, 2, 1, 4);
        factor(whole, 5, 1, 0, 1);
        outageFactor(whole, 0, 1, -1, 2);
        outageFactor(whole, 4, 3, -3, 8);
    }

    /** Promise 19: "(0 / 1 for the line of the outage itself)". */
    private static void factorOfOutageItself() {
        for (int outage = 0; outage < 4; outage++) {
            GridPrices ring = Check.loaded(RING + "outage " + outage + ";");
            for (int node = 0; node < 4; node++) {
                outageFactor(ring, outage, node, 0, 1);
            }
            factor(ring, 0, 1, -3, 4); // with all lines
        }
        GridPrices two = Check.loaded("nodes 2 intervals 1;line 0 1 4;line 0 1 4;outage 0;");
        outageFactor(two, 1, 1, -1, 1);
    }

    /** Promise 19: "IllegalStateException if there is no outage", also if there was one. */
    private static void noOutageAnyMore() {
        GridPrices ring = Check.loaded(RING);
        Check.dueState("no outage yet", () -> ring.outageFactor(0, 0, 0));
        ring.setOutage(0);
        outageFactor(ring, 1, 1, 1, 1);
        ring.setOutage(GridPrices.NONE);
        Check.dueState("no outage any more", () -> ring.outageFactor(1, 1, 0));
        ring.undo();
        outageFactor(ring, 1, 1, 1, 1);
        ring.undo();
        Check.dueState("the outage was undone", () -> ring.outageFactor(1, 1, 0));
    }

    // ---- transfers

    private static void leastAndGreatestTransfer() {
        transfer(new GridPrices(), 0, 1, 1, 1);
        transfer(Check.loaded("nodes 2 intervals 1;" + "line 1 0 200;".repeat(6)), 0, 1, 1200, 1);
        GridPrices triangle = Check.loaded("nodes 3 intervals 1;line 0 1 1;line 0 2 200;line 1 2 200;");
        transfer(triangle, 0, 1, 3, 2);
        transfer(triangle, 1, 2, 3, 1);
        triangle.setLimit(0, 200);
        transfer(triangle, 0, 1, 300, 1);
        // The flow of a line may be 0 whatever is transferred: then its limit does not matter.
        GridPrices bridge = Check.loaded("nodes 4 intervals 1;line 0 1 1;line 1 2 1;line 2 3 200;line 1 3 200;");
        transfer(bridge, 2, 3, 3, 1);
        transfer(bridge, 0, 3, 1, 1);
        transfer(bridge, 0, 1, 1, 1);
        GridPrices balanced = Check.loaded("nodes 4 intervals 1;line 0 1 7;line 1 2 7;line 0 3 7;line 3 2 7;"
                + "line 1 3 1;");
        transfer(balanced, 0, 2, 14, 1);
        transfer(balanced, 1, 3, 2, 1);
    }

    /** Promise 20: "the outage does not matter", nor do emergency limits and demands. */
    private static void transferWithoutOutage() {
        GridPrices two = Check.loaded("nodes 2 intervals 1;line 0 1 4 emergency 40;line 0 1 5 emergency 50;"
                + "demand 0 1 200;");
        transfer(two, 0, 1, 8, 1);
        two.setOutage(0);
        transfer(two, 0, 1, 8, 1);
        two.setLimit(0, 5);
        transfer(two, 0, 1, 10, 1);
        two.undo();
        transfer(two, 0, 1, 8, 1);
    }

    // ---- feasibility

    private static void feasible(String about, GridPrices prices, boolean want) {
        Check.due(about, prices.isFeasible(0), want);
    }

    /** No demand: all outputs and flows are 0 / 1, with generators and without. */
    private static void nothingToServe() {
        GridPrices none = new GridPrices();
        feasible("no generator, no demand", none, true);
        cost(none, 0, 1);
        flow(none, 0, 0, 1);
        Check.dueFraction("congestionCost", part -> none.congestionCost(0, part), 0, 1);
        Check.due("binding", none.binding(0, false), 0);
        Check.due("loadBits", none.loadBits(0, 0), 0);
        GridPrices idle = Check.loaded(RING + "generator 0 0 9;generator 3 99 9;outage 1;");
        feasible("no demand", idle, true);
        cost(idle, 0, 1);
        output(idle, 0, 0, 1);
        output(idle, 1, 0, 1);
        for (int line = 0; line < 4; line++) {
            flow(idle, line, 0, 1);
            after(idle, line, 0, 1);
            Check.due("loadBits", idle.loadBits(0, line), 0);
        }
        Check.due("binding after", idle.binding(0, true), 0);
    }

    private static void noGenerator() {
        GridPrices prices = new GridPrices();
        prices.setDemand(0, 1, 1);
        feasible("a demand, no generator", prices, false);
        prices.setDemand(0, 1, 0);
        feasible("no demand, no generator", prices, true);
        Check.dueIndex("no generator", () -> prices.output(0, 0, 0));
    }

    /** "from 0 to its capacity": all of it, and one more. */
    private static void justEnoughCapacity() {
        GridPrices one = Check.loaded(PAIR + "generator 1 3 1;");
        one.setDemand(0, 1, 1);
        feasible("a capacity of 1", one, true);
        one.setDemand(0, 1, 2);
        feasible("one more", one, false);
        GridPrices five = Check.loaded("nodes 2 intervals 1;line 0 1 200;" + "generator 0 3 40;".repeat(5));
        five.setDemand(0, 0, 100);
        five.setDemand(0, 1, 100);
        feasible("five capacities", five, true);
        for (int generator = 0; generator < 5; generator++) {
            output(five, generator, 40, 1);
        }
        five.setDemand(0, 0, 101);
        feasible("one more", five, false);
        five.setCapacity(4, 41);
        feasible("a greater capacity", five, true);
    }

    /** "the absolute value of the flow of each line is at most its limit": both ways, the least and the greatest. */
    private static void justEnoughLimit() {
        for (String ends : new String[] {"0 1", "1 0"}) {
            for (int limit : new int[] {1, 2, 199}) {
                GridPrices line = Check.loaded("nodes 2 intervals 1;line " + ends + " " + limit + ";"
                        + "generator 0 3 200;");
                line.setDemand(0, 1, limit);
                feasible("just the limit", line, true);
                flow(line, 0, ends.equals("0 1") ? limit : -limit, 1);
                line.setDemand(0, 1, limit + 1);
                feasible("one more", line, false);
                line.setDemand(0, 1, 0);
                line.setDemand(0, 0, 200);
                feasible("no line is needed", line, true);
            }
        }
        GridPrices half = Check.loaded("nodes 3 intervals 1;line 0 1 5;line 0 2 99;line 1 2 99;generator 0 3 200;");
        half.setDemand(0, 1, 7);
        feasible("7 of 7.5", half, true);
        half.setDemand(0, 1, 8);
        feasible("8 of 7.5", half, false);
    }

    /** "the absolute value of the flow of each line after the outage is at most its emergency limit". */
    private static void justEnoughEmergency() {
        for (String ends : new String[] {"0 1", "1 0"}) {
            GridPrices two = Check.loaded("nodes 2 intervals 1;line " + ends + " 10 emergency 15;line 0 1 10;"
                    + "generator 0 3 200;outage 1;");
            two.setDemand(0, 1, 15);
            feasible("just the emergency limit", two, true);
            two.setDemand(0, 1, 16);
            feasible("one more", two, false);
            two.setOutage(0);
            feasible("an emergency limit that is the limit", two, false);
            two.setDemand(0, 1, 10);
            feasible("an emergency limit that is the limit", two, true);
            two.setOutage(GridPrices.NONE);
            two.setDemand(0, 1, 20);
            feasible("no outage", two, true);
            two.setDemand(0, 1, 21);
            feasible("one more", two, false);
        }
        GridPrices most = Check.loaded("nodes 2 intervals 1;line 0 1 200 emergency 400;line 0 1 200 emergency 400;"
                + "generator 0 3 200;generator 0 3 200;demand 0 1 200;outage 0;");
        feasible("the greatest emergency limit", most, true);
        after(most, 1, 200, 1);
    }

    /** The outage of a line without flow costs nothing; the other limits hold as before. */
    private static void outageWithoutFlow() {
        GridPrices ring = Check.loaded(RING + "generator 0 3 200;demand 0 2 8;outage 1;");
        feasible("8 units on one way", ring, false);
        ring.setDemand(0, 2, 4);
        feasible("4 units on one way", ring, true);
        ring.setOutage(GridPrices.NONE);
        ring.setDemand(0, 2, 8);
        feasible("8 units on two ways", ring, true);
        ring.setDemand(0, 2, 9);
        feasible("9 units on two ways", ring, false);
    }

    // ---- costs

    private static void leastAndGreatestCost() {
        GridPrices free = Check.loaded(PAIR + "generator 0 0 200;demand 0 0 200;demand 0 1 9;");
        feasible("209 of 200", free, false);
        free.setDemand(0, 0, 191);
        cost(free, 0, 1);
        GridPrices dear = Check.loaded("nodes 4 intervals 1;line 0 1 1;line 0 2 1;line 0 3 1;generator 0 99 200;"
                + "generator 1 99 200;generator 2 99 200;generator 3 99 200;demand 0 0 200;demand 0 1 200;"
                + "demand 0 2 200;"
                + "demand 0 3 200;");
        cost(dear, 79200, 1);
        GridPrices half = Check.loaded("nodes 3 intervals 1;line 0 1 6;line 0 2 9;line 1 2 9;line 1 2 9;"
                + "generator 0 1 200;generator 2 4 200;demand 0 1 13;");
        cost(half, 53, 2);
    }

    /** Promise 23: 0 / 1 as long as no limit matters; also what an outage's limits cost. */
    private static void congestionCosts() {
        GridPrices prices = Check.loaded("nodes 2 intervals 1;line 0 1 9;line 0 1 9;generator 0 1 50;"
                + "generator 1 8 50;");
        int[][] due = {{0, 0}, {17, 0}, {18, 0}, {19, 7}, {50, 7 * 32}};
        for (int[] pair : due) {
            prices.setDemand(0, 1, pair[0]);
            Check.dueFraction("congestionCost of " + pair[0], part -> prices.congestionCost(0, part), pair[1], 1);
        }
        // Without limits 50 units cost 1 each and the others 8: the capacity is no congestion.
        prices.setDemand(0, 1, 60);
        Check.dueFraction("congestionCost", part -> prices.congestionCost(0, part), 7 * 32, 1);
        prices.setOutage(0);
        prices.setDemand(0, 1, 59);
        Check.dueFraction("congestionCost", part -> prices.congestionCost(0, part), 7 * 41, 1);
        prices.setDemand(0, 1, 9);
        Check.dueFraction("congestionCost", part -> prices.congestionCost(0, part), 0, 1);
        prices.setDemand(0, 1, 101);
        Check.dueState("infeasible", () -> prices.congestionCost(0, 0));
        prices.setDemand(0, 1, 60);
        Check.dueState("infeasible because of limits alone", () -> prices.congestionCost(0, 1));
    }

    // ---- outputs

    private static void outputsAtTheirEnds() {
        GridPrices prices = Check.loaded(PAIR + "generator 0 1 9;generator 1 2 9;generator 1 99 200;");
        prices.setDemand(0, 1, 9);
        output(prices, 0, 9, 1);
        output(prices, 1, 0, 1);
        output(prices, 2, 0, 1);
        prices.setDemand(0, 1, 18);
        output(prices, 1, 9, 1);
        output(prices, 2, 0, 1);
        prices.setDemand(0, 1, 19);
        output(prices, 1, 9, 1);
        output(prices, 2, 1, 1);
        prices.setDemand(0, 1, 200);
        output(prices, 2, 182, 1);
        // A dear one must produce where a line is full.
        GridPrices half = Check.loaded("nodes 3 intervals 1;line 0 1 5;line 0 2 99;line 1 2 99;generator 0 0 200;"
                + "generator 1 99 200;demand 0 1 8;");
        output(half, 0, 15, 2);
        output(half, 1, 1, 2);
    }

    /** "of several the one with the least output of generator 0, of several of these ... of generator 1, and so on". */
    private static void tiesOfMany() {
        for (int cost : new int[] {0, 7, 99}) {
            GridPrices five = Check.loaded("nodes 2 intervals 1;line 0 1 200;"
                    + ("generator 0 " + cost + " 20;generator 1 " + cost + " 20;").repeat(2) + "generator 0 " + cost
                    + " 20;");
            for (int demand = 0; demand <= 100; demand += 10) {
                five.setDemand(0, 1, demand);
                int left = demand;
                for (int generator = 4; generator >= 0; generator--) {
                    int due = Math.min(20, left);
                    output(five, generator, due, 1);
                    left -= due;
                }
            }
        }
        // The line is full with 3, so that generator 1 cannot take what generator 0 would leave to it.
        GridPrices narrow = Check.loaded("nodes 2 intervals 1;line 0 1 3;generator 1 5 20;generator 0 5 20;"
                + "generator 1 5 4;"
                + "demand 0 1 10;");
        output(narrow, 0, 3, 1);
        output(narrow, 1, 3, 1);
        output(narrow, 2, 4, 1);
    }

    // ---- flows

    private static void flowsAtTheirEnds() {
        GridPrices triangle = Check.loaded("nodes 3 intervals 1;line 0 1 9;line 2 0 9;line 1 2 9;generator 0 3 200;");
        triangle.setDemand(0, 0, 50);
        for (int line = 0; line < 3; line++) {
            flow(triangle, line, 0, 1);
        }
        triangle.setDemand(0, 1, 1);
        flow(triangle, 0, 2, 3);
        flow(triangle, 1, -1, 3);
        flow(triangle, 2, -1, 3);
        triangle.setDemand(0, 2, 1);
        flow(triangle, 0, 1, 1);
        flow(triangle, 1, -1, 1);
        flow(triangle, 2, 0, 1);
        triangle.setDemand(0, 1, 9);
        triangle.setDemand(0, 2, 9);
        flow(triangle, 0, 9, 1);
        flow(triangle, 1, -9, 1);
    }

    /** "whose own flow is 0 then"; promise 26: "if the interval is infeasible, or if there is no outage". */
    private static void flowsAfterAtTheirEnds() {
        GridPrices ring = Check.loaded(RING + "generator 0 3 200;demand 0 2 4;");
        Check.dueState("no outage", () -> ring.flowAfter(0, 0, 0));
        for (int outage = 0; outage < 4; outage++) {
            ring.setOutage(outage);
            boolean isEast = outage < 2;
            after(ring, outage, 0, 1);
            after(ring, 0, isEast ? 0 : 4, 1);
            after(ring, 1, isEast ? 0 : 4, 1);
            after(ring, 2, isEast ? -4 : 0, 1);
            after(ring, 3, isEast ? -4 : 0, 1);
            flow(ring, 0, 2, 1);
            flow(ring, 3, -2, 1);
        }
        ring.setDemand(0, 2, 5);
        Check.dueState("infeasible", () -> ring.flowAfter(0, 0, 0));
        ring.setOutage(GridPrices.NONE);
        Check.dueState("feasible, but no outage", () -> ring.flowAfter(0, 0, 1));
        ring.setDemand(0, 2, 9);
        Check.dueState("infeasible and no outage", () -> ring.flowAfter(0, 0, 1));
    }

    /** Promise 27: "the lines whose flow is the limit or its negative"; half a unit less is not the limit. */
    private static void bindingAndAlmostBinding() {
        GridPrices six = Check.loaded("nodes 2 intervals 1;" + "line 0 1 2;line 1 0 2;".repeat(3)
                + "generator 0 3 200;");
        int[][] due = {{0, 0}, {1, 0}, {11, 0}, {12, 63}};
        for (int[] pair : due) {
            six.setDemand(0, 1, pair[0]);
            Check.due("binding of " + pair[0], six.binding(0, false), pair[1]);
            Check.due("without outage", six.binding(0, true), 0);
        }
        six.setLimit(3, 3);
        Check.due("all but line 3", six.binding(0, false), 55);
        GridPrices half = Check.loaded("nodes 3 intervals 1;line 0 1 5;line 0 2 99;line 1 2 99;generator 0 3 200;"
                + "demand 0 1 7;");
        Check.due("14/3 of 5", half.binding(0, false), 0);
        half.setDemand(0, 2, 1);
        Check.due("5 of 5", half.binding(0, false), 1);
    }

    /** Promise 27: "flow after the outage is the emergency limit or its negative"; "0 if ... there is no outage". */
    private static void bindingAfter() {
        String both = "line 0 1 2 emergency 3;line 1 0 2 emergency 3;";
        GridPrices six = Check.loaded("nodes 2 intervals 1;" + both.repeat(3) + "generator 0 3 200;demand 0 1 12;");
        Check.due("12 / 6 is the limit", six.binding(0, false), 63);
        Check.due("no outage", six.binding(0, true), 0);
        for (int outage = 0; outage < 6; outage++) {
            six.setOutage(outage);
            Check.due("12 / 5 is less than 3", six.binding(0, true), 0);
        }
        for (int line = 0; line < 6; line++) {
            six.setLimit(line, 3);
        }
        six.setDemand(0, 1, 15);
        Check.due("15 / 6 is less than 3", six.binding(0, false), 0);
        for (int outage = 0; outage < 6; outage++) {
            six.setOutage(outage);
            Check.due("15 / 5 is 3, but for the outage itself", six.binding(0, true), 63 - (1 << outage));
        }
        six.setOutage(GridPrices.NONE);
        Check.due("no outage any more", six.binding(0, true), 0);
        six.setDemand(0, 1, 19);
        Check.dueState("infeasible without outage", () -> six.binding(0, true));
    }

    // ---- loads

    private static int bits(int top, int bottom, int limit) {
        return Float.floatToIntBits(((float) top / (float) bottom) / (float) limit);
    }

    /** Promise 28 for every whole flow and every limit, both ways; a full line has 1, an idle one 0. */
    private static void loadsOfWholeFlows() {
        for (int limit = 1; limit <= 200; limit++) {
            String ends = limit % 2 == 0 ? "0 1" : "1 0";
            GridPrices prices = Check.loaded("nodes 2 intervals 1;line " + ends + " " + limit + ";generator 0 3 200;");
            for (int demand = 0; demand <= limit; demand++) {
                prices.setDemand(0, 1, demand);
                Check.due("load " + demand + " / " + limit, prices.loadBits(0, 0), bits(demand, 1, limit));
            }
            Check.due("a full line", prices.loadBits(0, 0), 0x3f800000);
        }
    }

    /** Promise 28: n and d are those of the fraction in lowest terms, and each division rounds. */
    private static void loadsOfFractions() {
        for (int limit : new int[] {1, 3, 7, 100, 199, 200}) {
            GridPrices triangle = Check.loaded("nodes 3 intervals 1;line 1 0 " + limit + ";line 0 2 200;line 1 2 200;"
                    + "generator 0 3 200;");
            for (int demand = 0; demand <= 100 && 2 * demand <= 3 * limit; demand++) {
                triangle.setDemand(0, 1, demand);
                int shared = demand % 3 == 0 ? 3 : 1;
                Check.due("load", triangle.loadBits(0, 0), bits(2 * demand / shared, 3 / shared, limit));
                Check.due("load", triangle.loadBits(0, 1), bits(demand / shared, 3 / shared, 200));
            }
        }
        // A line with a quarter of a unit, and one that is idle while all the others are not.
        GridPrices whole = Check.loaded("nodes 4 intervals 1;line 0 1 200;line 0 2 200;line 0 3 200;line 1 2 200;"
                + "line 1 3 200;line 2 3 200;generator 0 3 200;demand 0 1 1;");
        Check.due("load", whole.loadBits(0, 3), bits(1, 4, 200));
        Check.due("load", whole.loadBits(0, 5), 0);
    }

    // ---- an infeasible interval

    /** Each question about the dispatch of an infeasible interval; the other interval is answered. */
    private static void infeasibleIntervals() {
        GridPrices prices = Check.loaded("nodes 2 intervals 2;line 0 1 9;line 0 1 9;generator 0 3 200;demand 0 1 10;"
                + "demand 1 1 9;outage 1;");
        Check.due("isFeasible", prices.isFeasible(0), false);
        for (int part = 0; part < 2; part++) {
            int p = part;
            Check.dueState("leastCost", () -> prices.leastCost(0, p));
            Check.dueState("congestionCost", () -> prices.congestionCost(0, p));
            Check.dueState("output", () -> prices.output(0, 0, p));
            Check.dueState("flow", () -> prices.flow(0, 0, p));
            Check.dueState("flowAfter", () -> prices.flowAfter(0, 0, p));
        }
        Check.dueState("binding", () -> prices.binding(0, false));
        Check.dueState("binding", () -> prices.binding(0, true));
        Check.dueState("loadBits", () -> prices.loadBits(0, 0));
        Check.due("isFeasible", prices.isFeasible(1), true);
        Check.due("leastCost", prices.leastCost(1, 0), 27);
        Check.due("binding", prices.binding(1, true), 1);
        prices.setDemand(0, 1, 9);
        Check.due("feasible again", prices.leastCost(0, 0), 27);
        prices.undo();
        Check.dueState("infeasible again", () -> prices.leastCost(0, 0));
    }
}
