/** Promises 32 to 38: profits, rents, the surplus, and the rights. */
public final class SettlementTest {

    private static final String TRIANGLE = "nodes 3 intervals 3;line 0 1 60;line 0 2 100;line 1 2 100;"
            + "generator 0 10 200;generator 1 30 200;demand 0 2 150;demand 1 2 151;demand 2 0 200;demand 2 1 200;"
            + "demand 2 2 1;";
    private static final String RIGHTS = "right 0 0 2 100;right 1 0 1 100;right 2 2 1 50;right 1 0 2 100;";

    private SettlementTest() {
    }

    public static void main(String[] args) {
        profits();
        rents();
        surpluses();
        rightsFit();
        targets();
        underfunded();
        longFractions();
        funded();
        fundBelowZero();
        missing();
        wrongSettlement();
        wrongRights();
        Check.end();
    }

    private interface Part {
        long of(int part);
    }

    private static void due(String call, Part got, long top, long bottom) {
        Check.due(call + " part 0", got.of(0), top);
        Check.due(call + " part 1", got.of(1), bottom);
    }

    private static void profits() {
        GridPrices prices = Check.loaded(TRIANGLE);
        due("profit 0", part -> prices.profit(0, 0, part), 0, 1);
        due("profit 1", part -> prices.profit(0, 1, part), 0, 1);
        prices.setCapacity(0, 100);
        due("profit 0", part -> prices.profit(0, 0, part), 2000, 1);
        due("profit 1", part -> prices.profit(0, 1, part), 0, 1);
        // The price is that of one more unit, so that a generator that is just used up has a profit.
        GridPrices half = Check.loaded("nodes 3 intervals 1;line 0 1 6;line 0 2 9;line 1 2 9;line 1 2 9;"
                + "generator 0 1 200;generator 2 4 200;generator 1 5 1;demand 0 1 14;");
        due("profit 2", part -> half.profit(0, 2, part), 1, 2);
    }

    private static void rents() {
        GridPrices prices = Check.loaded(TRIANGLE);
        due("rent 0", part -> prices.rent(0, 0, part), 1000, 1);
        due("rent 1", part -> prices.rent(0, 1, part), 4000, 1);
        due("rent 2", part -> prices.rent(0, 2, part), 1000, 1);
        prices.setDemand(0, 2, 10);
        due("no rent", part -> prices.rent(0, 0, part), 0, 1);
        GridPrices back = Check.loaded("nodes 3 intervals 1;line 1 0 10;line 0 2 200;line 1 2 200;"
                + "generator 0 1 200;generator 1 50 200;demand 0 1 60;");
        due("rent of a flow back", part -> back.rent(0, 0, part), 490, 1);
        due("rent", part -> back.rent(0, 1, part), 245, 2);
    }

    private static void surpluses() {
        GridPrices prices = Check.loaded(TRIANGLE);
        due("surplus", part -> prices.surplus(0, part), 6000, 1);
        due("surplus", part -> prices.surplus(1, part), 151 * 50 - 1490 - 60, 1);
        prices.setDemand(0, 2, 10);
        due("no surplus", part -> prices.surplus(0, part), 0, 1);
    }

    private static void rightsFit() {
        GridPrices prices = Check.loaded(TRIANGLE + "right 0 0 2 100;right 1 2 0 10;");
        Check.due("fit", prices.areRightsFeasible(), true);
        prices.setLimit(1, 60);
        Check.due("just fit", prices.areRightsFeasible(), true);
        prices.setOutage(0);
        Check.due("the outage does not matter", prices.areRightsFeasible(), true);
        prices.setLimit(1, 59);
        Check.due("do not fit", prices.areRightsFeasible(), false);
        Check.due("no rights", Check.loaded(TRIANGLE).areRightsFeasible(), true);
        GridPrices back = Check.loaded("nodes 2 intervals 1;line 0 1 50;right 0 1 0 50;");
        Check.due("just fit backwards", back.areRightsFeasible(), true);
        back.setLimit(0, 49);
        Check.due("do not fit backwards", back.areRightsFeasible(), false);
    }

    private static void targets() {
        GridPrices prices = Check.loaded(TRIANGLE + RIGHTS);
        due("target 0", part -> prices.target(0, 0, part), 4000, 1);
        due("target 1", part -> prices.target(0, 1, part), 2000, 1);
        due("target 2", part -> prices.target(0, 2, part), -1000, 1);
        due("target 3", part -> prices.target(0, 3, part), 4000, 1);
    }

    private static void underfunded() {
        GridPrices prices = Check.loaded(TRIANGLE + RIGHTS);
        due("fundingRatio", part -> prices.fundingRatio(0, part), 7, 10);
        due("paid 0", part -> prices.paid(0, 0, part), 2800, 1);
        due("paid 1", part -> prices.paid(0, 1, part), 4200, 1);
        due("paid 2", part -> prices.paid(0, 2, part), -1000, 1);
        due("paid 3", part -> prices.paid(0, 3, part), 0, 1);
        GridPrices ones = Check.loaded("nodes 2 intervals 1;line 0 1 5;generator 0 1 99;generator 1 2 99;"
                + "demand 0 1 10;" + "right 0 0 1 1;".repeat(3) + "right 1 0 1 1;".repeat(3));
        due("target 0", part -> ones.target(0, 0, part), 1, 1);
        due("fundingRatio", part -> ones.fundingRatio(0, part), 5, 6);
        due("paid 1", part -> ones.paid(0, 1, part), 5, 2);
        GridPrices both = Check.loaded(TRIANGLE + "right 3 0 2 99;right 3 1 0 50;right 3 0 2 100;");
        due("fundingRatio", part -> both.fundingRatio(0, part), 175, 199);
        due("paid 3", part -> both.paid(0, 3, part), 6000, 1);
    }

    /** What is paid fits longs here, while target * funding ratio does not. */
    private static void longFractions() {
        GridPrices one = Check.loaded("nodes 4 intervals 1;line 1 2 200;line 3 1 36;line 2 3 99;line 0 2 44;"
                + "line 3 2 200;line 1 0 21 emergency 62;generator 0 70 104;generator 1 49 8;generator 2 6 103;"
                + "generator 1 0 87;generator 3 8 94;demand 0 0 168;demand 0 1 122;demand 0 2 54;right 0 3 1 83;"
                + "right 0 1 3 8;right 0 2 0 20;right 2 3 1 44;outage 2;");
        due("price 0", part -> one.price(0, 0, part), 21632, 275);
        due("price 1", part -> one.price(0, 1, part), 29899, 675);
        due("price 2", part -> one.price(0, 2, part), 8478, 475);
        due("price 3", part -> one.price(0, 3, part), 8, 1);
        due("surplus", part -> one.surplus(0, part), 18928585507L, 3526875);
        due("target 2", part -> one.target(0, 2, part), 254200, 209);
        due("fundingRatio", part -> one.fundingRatio(0, part), 19952643707L, 20546548925L);
        due("paid 0", part -> one.paid(0, 0, part), 3687165760020624257L, 966201463198125L);
        due("paid 1", part -> one.paid(0, 1, part), 0, 1);
        GridPrices two = Check.loaded("nodes 4 intervals 1;line 1 0 25 emergency 174;line 2 3 200;line 1 3 99;"
                + "line 2 3 200;line 1 2 49;line 0 3 18;generator 2 0 179;generator 1 6 29;generator 3 50 3;"
                + "generator 0 91 3;demand 0 0 45;demand 0 1 30;demand 0 3 72;right 0 3 1 7;right 3 2 0 33;"
                + "right 3 0 1 6;right 3 3 0 71;outage 1;");
        due("paid 3", part -> two.paid(0, 3, part), 1534213507619934369L, 187996748989700L);
        GridPrices three = Check.loaded("nodes 4 intervals 1;line 2 0 200;line 0 2 35 emergency 121;line 2 1 26;"
                + "line 3 0 24;line 1 3 200;line 2 3 200;generator 3 95 8;generator 1 1 151;generator 2 40 172;"
                + "generator 0 9 4;demand 0 0 67;demand 0 1 61;demand 0 2 90;demand 0 3 109;right 1 0 3 98;"
                + "right 1 1 3 85;right 0 0 2 63;right 0 3 1 84;right 1 3 2 5;outage 5;");
        due("paid 1", part -> three.paid(0, 1, part), 5291922771322915282L, 401670091517695L);
    }

    private static void funded() {
        GridPrices prices = Check.loaded(TRIANGLE + "right 0 0 2 100;right 1 0 1 100;right 2 2 1 50;");
        due("fundingRatio", part -> prices.fundingRatio(0, part), 1, 1);
        due("paid 0", part -> prices.paid(0, 0, part), 4000, 1);
        due("paid 1", part -> prices.paid(0, 1, part), 2000, 1);
        due("paid 2", part -> prices.paid(0, 2, part), -1000, 1);
        GridPrices just = Check.loaded(TRIANGLE + "right 0 0 2 100;right 1 0 1 100;");
        due("just funded", part -> just.fundingRatio(0, part), 1, 1);
        due("no rights", part -> Check.loaded(TRIANGLE).fundingRatio(0, part), 1, 1);
        just.setDemand(0, 2, 10);
        due("targets of 0", part -> just.fundingRatio(0, part), 1, 1);
        due("paid 0", part -> just.paid(0, 0, part), 0, 1);
    }

    /** Prices are those of a whole unit more, so the surplus, and with it the fund, can be below 0. */
    private static void fundBelowZero() {
        String grid = "nodes 3 intervals 1;line 2 0 4;line 1 2 1;line 1 0 11;generator 0 8 8;generator 1 8 4;"
                + "generator 2 5 9;demand 0 0 8;demand 0 1 2;demand 0 2 4;";
        GridPrices prices = Check.loaded(grid + "right 0 0 1 10;right 1 1 0 1;");
        due("price 0", part -> prices.price(0, 0, part), 8, 1);
        due("price 1", part -> prices.price(0, 1, part), 11, 1);
        due("price 2", part -> prices.price(0, 2, part), 8, 1);
        due("surplus", part -> prices.surplus(0, part), -6, 1);
        due("nothing to fund with", part -> prices.fundingRatio(0, part), 0, 1);
        due("paid 0", part -> prices.paid(0, 0, part), 0, 1);
        due("paid 1", part -> prices.paid(0, 1, part), -3, 1);
        GridPrices more = Check.loaded(grid + "right 0 0 1 10;right 1 1 0 4;");
        due("debts fund the rest", part -> more.fundingRatio(0, part), 1, 5);
        due("paid 0", part -> more.paid(0, 0, part), 6, 1);
        due("paid 1", part -> more.paid(0, 1, part), -12, 1);
        GridPrices debts = Check.loaded(grid + "right 1 1 0 1;");
        due("nothing to be funded", part -> debts.fundingRatio(0, part), 1, 1);
        due("paid 1", part -> debts.paid(0, 1, part), -3, 1);
    }

    private static void missing() {
        GridPrices prices = Check.loaded("nodes 3 intervals 1;line 0 1 9;line 0 2 50;generator 0 5 99;"
                + "generator 1 7 5;demand 0 1 14;right 0 0 2 5;right 1 0 1 5;");
        due("profit 0", part -> prices.profit(0, 0, part), 0, 1);
        Check.dueMissing("profit 1", () -> prices.profit(0, 1, 0));
        Check.dueMissing("rent 0", () -> prices.rent(0, 0, 0));
        due("rent 1", part -> prices.rent(0, 1, part), 0, 1);
        Check.dueMissing("surplus", () -> prices.surplus(0, 0));
        due("target 0", part -> prices.target(0, 0, part), 0, 1);
        Check.dueMissing("target 1", () -> prices.target(0, 1, 0));
        Check.dueMissing("fundingRatio", () -> prices.fundingRatio(0, 0));
        Check.dueMissing("paid 0", () -> prices.paid(0, 0, 0));
        Check.dueMissing("paid without rights", () -> prices.paid(0, 3, 0));
        GridPrices turned = Check.loaded("nodes 2 intervals 1;line 1 0 9;generator 0 5 99;demand 0 1 9;right 0 1 0 5;");
        Check.dueMissing("rent from a node without price", () -> turned.rent(0, 0, 0));
        Check.dueMissing("target from a node without price", () -> turned.target(0, 0, 0));
    }

    private static void wrongSettlement() {
        GridPrices prices = Check.loaded(TRIANGLE);
        Check.dueIndex("profit", () -> prices.profit(3, 0, 0));
        Check.dueIndex("profit", () -> prices.profit(-1, 0, 0));
        Check.dueIndex("profit", () -> prices.profit(2, 2, 2));
        Check.dueIndex("profit", () -> prices.profit(0, -1, 0));
        Check.dueArgument("profit", () -> prices.profit(2, 1, 2));
        Check.dueArgument("profit", () -> prices.profit(0, 1, -1));
        Check.dueState("profit", () -> prices.profit(2, 1, 0));
        Check.dueIndex("rent", () -> prices.rent(3, 0, 0));
        Check.dueIndex("rent", () -> prices.rent(-1, 0, 0));
        Check.dueIndex("rent", () -> prices.rent(2, 3, 2));
        Check.dueIndex("rent", () -> prices.rent(0, -1, 0));
        Check.dueArgument("rent", () -> prices.rent(2, 1, 2));
        Check.dueArgument("rent", () -> prices.rent(0, 1, -1));
        Check.dueState("rent", () -> prices.rent(2, 1, 0));
        Check.dueIndex("surplus", () -> prices.surplus(3, 2));
        Check.dueIndex("surplus", () -> prices.surplus(-1, 0));
        Check.dueArgument("surplus", () -> prices.surplus(2, 2));
        Check.dueArgument("surplus", () -> prices.surplus(0, -1));
        Check.dueState("surplus", () -> prices.surplus(2, 0));
    }

    private static void wrongRights() {
        GridPrices prices = Check.loaded(TRIANGLE + RIGHTS);
        Check.dueIndex("target", () -> prices.target(3, 0, 0));
        Check.dueIndex("target", () -> prices.target(-1, 0, 0));
        Check.dueIndex("target", () -> prices.target(2, 4, 2));
        Check.dueIndex("target", () -> prices.target(0, -1, 0));
        Check.dueArgument("target", () -> prices.target(2, 3, 2));
        Check.dueArgument("target", () -> prices.target(0, 3, -1));
        Check.dueState("target", () -> prices.target(2, 3, 0));
        Check.dueIndex("fundingRatio", () -> prices.fundingRatio(3, 2));
        Check.dueIndex("fundingRatio", () -> prices.fundingRatio(-1, 0));
        Check.dueArgument("fundingRatio", () -> prices.fundingRatio(2, 2));
        Check.dueArgument("fundingRatio", () -> prices.fundingRatio(0, -1));
        Check.dueState("fundingRatio", () -> prices.fundingRatio(2, 0));
        Check.dueIndex("paid", () -> prices.paid(3, 0, 0));
        Check.dueIndex("paid", () -> prices.paid(-1, 0, 0));
        Check.dueIndex("paid", () -> prices.paid(2, 4, 2));
        Check.dueIndex("paid", () -> prices.paid(0, -1, 0));
        Check.dueArgument("paid", () -> prices.paid(2, 3, 2));
        Check.dueArgument("paid", () -> prices.paid(0, 3, -1));
        Check.dueState("paid", () -> prices.paid(2, 3, 0));
    }
}
