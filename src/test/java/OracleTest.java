import java.util.ArrayList;
import java.util.List;
import java.util.Random;

/** Random grids and changes, with every answer compared with the oracle's. The seeds are fixed. */
public final class OracleTest {

    private final Random random;
    private final GridPrices prices = new GridPrices();
    private Oracle oracle = new Oracle();
    private final List<Oracle> history = new ArrayList<>();
    private String about;

    private OracleTest(long seed) {
        random = new Random(seed);
        about = "seed " + seed + ": ";
    }

    public static void main(String[] args) {
        int first = args.length > 0 ? Integer.parseInt(args[0]) : 1;
        int last = args.length > 1 ? Integer.parseInt(args[1]) : 150;
        for (int seed = first; seed <= last; seed++) {
            new OracleTest(seed).run();
        }
        Check.end();
    }

    private int from(int low, int high) {
        return low + random.nextInt(high - low + 1);
    }

    private void run() {
        String text = randomGrid();
        about += text.replace('\n', ' ') + ": ";
        Check.put(prices, text);
        Check.due(about + "load", prices.load(), oracle.lines.size());
        compareGrid();
        compareIntervals();
        for (int round = 0; round < 3; round++) {
            for (int change = from(1, 5); change > 0; change--) {
                changeSomething();
            }
            compareGrid();
            compareIntervals();
        }
    }

    // ---- making grids

    private String randomGrid() {
        do {
            oracle = new Oracle();
            oracle.nodes = from(2, 4);
            oracle.intervals = from(1, 2);
            int lines = from(1, 6);
            int scale = random.nextBoolean() ? 200 : 40;
            for (int line = 0; line < lines; line++) {
                int start = from(0, oracle.nodes - 1);
                int stop = (start + from(1, oracle.nodes - 1)) % oracle.nodes;
                int limit = from(1, scale);
                int emergency = random.nextBoolean() ? limit : from(limit, Math.min(400, limit + 20));
                oracle.lines.add(new int[] {start, stop, limit, emergency});
            }
        } while (!oracle.isConnectedWithout(-1));
        int generators = from(random.nextInt(8) == 0 ? 0 : 2, random.nextInt(3) == 0 ? 5 : 4);
        int costs = random.nextBoolean() ? 99 : 4;
        for (int generator = 0; generator < generators; generator++) {
            oracle.generators.add(new int[] {from(0, oracle.nodes - 1), from(0, costs), from(1, 200)});
        }
        int demand = random.nextBoolean() ? 120 : 40;
        for (int interval = 0; interval < oracle.intervals; interval++) {
            for (int node = 0; node < oracle.nodes; node++) {
                oracle.demands[interval][node] = random.nextInt(4) == 0 ? 0 : from(0, demand);
            }
        }
        for (int rights = from(0, 6); rights > 0; rights--) {
            int start = from(0, oracle.nodes - 1);
            int stop = (start + from(1, oracle.nodes - 1)) % oracle.nodes;
            oracle.rights.add(new int[] {from(0, 3), start, stop, from(1, 100)});
        }
        int outage = from(0, oracle.lines.size() - 1);
        if (random.nextInt(3) > 0 && oracle.isConnectedWithout(outage)) {
            oracle.outage = outage;
        }
        return oracle.text();
    }

    // ---- changes

    private void changeSomething() {
        Oracle before = oracle.copy();
        int kind = random.nextInt(7);
        if (kind == 0) {
            int[] line = oracle.lines.get(from(0, oracle.lines.size() - 1));
            int limit = from(1, 200);
            Check.due(about + "setLimit", prices.setLimit(oracle.lines.indexOf(line), limit), line[2]);
            line[2] = limit;
            line[3] = Math.max(line[3], limit);
        } else if (kind == 1 && !oracle.generators.isEmpty()) {
            int[] generator = oracle.generators.get(from(0, oracle.generators.size() - 1));
            int cost = from(0, 99);
            Check.due(about + "setCost", prices.setCost(oracle.generators.indexOf(generator), cost), generator[1]);
            generator[1] = cost;
        } else if (kind == 2 && !oracle.generators.isEmpty()) {
            int[] generator = oracle.generators.get(from(0, oracle.generators.size() - 1));
            int most = from(1, 200);
            int number = oracle.generators.indexOf(generator);
            Check.due(about + "setCapacity", prices.setCapacity(number, most), generator[2]);
            generator[2] = most;
        } else if (kind == 3) {
            int interval = from(0, oracle.intervals - 1);
            int node = from(0, oracle.nodes - 1);
            int demand = from(0, 100);
            int due = oracle.demands[interval][node];
            Check.due(about + "setDemand", prices.setDemand(interval, node, demand), due);
            oracle.demands[interval][node] = demand;
        } else if (kind == 4) {
            if (!changeOutage(from(-1, oracle.lines.size() - 1))) {
                return;
            }
        } else {
            undo();
            return;
        }
        history.add(before);
        if (history.size() > 10) {
            history.remove(0);
        }
    }

    private boolean changeOutage(int line) {
        if (line >= 0 && !oracle.isConnectedWithout(line)) {
            Check.dueArgument(about + "setOutage " + line, () -> prices.setOutage(line));
            return false;
        }
        Check.due(about + "setOutage " + line, prices.setOutage(line), oracle.outage);
        oracle.outage = line;
        return true;
    }

    private void undo() {
        if (history.isEmpty()) {
            Check.dueState(about + "undo", prices::undo);
            return;
        }
        oracle = history.remove(history.size() - 1);
        Check.due(about + "undo", prices.undo(), history.size());
    }

    // ---- comparing

    private void due(String call, Ratio want, Part got) {
        Check.due(about + call + " part 0", got.of(0), want.part(0));
        Check.due(about + call + " part 1", got.of(1), want.part(1));
    }

    private interface Part {
        long of(int part);
    }

    private void compareGrid() {
        for (int line = 0; line < oracle.lines.size(); line++) {
            for (int what = 0; what < 4; what++) {
                Check.due(about + "line", prices.line(line, what), oracle.lines.get(line)[what]);
            }
            for (int node = 0; node < oracle.nodes; node++) {
                int l = line;
                int n = node;
                due("factor " + l + " " + n, oracle.factor(l, n, -1), part -> prices.factor(l, n, part));
                if (oracle.outage >= 0) {
                    Ratio after = oracle.factor(l, n, oracle.outage);
                    due("outageFactor " + l + " " + n, after, part -> prices.outageFactor(l, n, part));
                }
            }
        }
        for (int from = 0; from < oracle.nodes; from++) {
            for (int to = 0; to < oracle.nodes; to++) {
                int f = from;
                int t = to;
                if (f != t) {
                    due("transferLimit", oracle.transferLimit(f, t), part -> prices.transferLimit(f, t, part));
                }
            }
        }
        Check.due(about + "outage", prices.outage(), oracle.outage);
        Check.due(about + "areRightsFeasible", prices.areRightsFeasible(), areRightsFeasible());
    }

    private boolean areRightsFeasible() {
        Ratio[] injections = Oracle.zeros(oracle.nodes);
        for (int[] right : oracle.rights) {
            injections[right[1]] = injections[right[1]].plus(Ratio.of(right[3]));
            injections[right[2]] = injections[right[2]].minus(Ratio.of(right[3]));
        }
        Ratio[] flows = oracle.flows(injections, -1);
        for (int line = 0; line < flows.length; line++) {
            if (flows[line].abs().compareTo(Ratio.of(oracle.lines.get(line)[2])) > 0) {
                return false;
            }
        }
        return true;
    }

    private void compareIntervals() {
        for (int interval = 0; interval < oracle.intervals; interval++) {
            compareInterval(interval);
        }
    }

    private void compareInterval(int i) {
        Ratio[] outputs = oracle.dispatch(i, true);
        Check.due(about + "isFeasible", prices.isFeasible(i), outputs != null);
        if (outputs == null) {
            compareInfeasible(i);
            return;
        }
        Ratio least = oracle.cost(outputs);
        due("leastCost", least, part -> prices.leastCost(i, part));
        Ratio loose = oracle.cost(oracle.dispatch(i, false));
        due("congestionCost", least.minus(loose), part -> prices.congestionCost(i, part));
        Oracle whole = oracle.copy();
        whole.outage = -1;
        due("securityCost", least.minus(whole.leastCost(i)), part -> prices.securityCost(i, part));
        for (int generator = 0; generator < outputs.length; generator++) {
            int g = generator;
            due("output " + g, outputs[g], part -> prices.output(i, g, part));
        }
        compareFlows(i, outputs);
        compareLineValues(i, least);
        comparePrices(i, outputs);
    }

    private void compareInfeasible(int i) {
        Check.dueState(about + "leastCost", () -> prices.leastCost(i, 0));
        Check.dueState(about + "congestionCost", () -> prices.congestionCost(i, 0));
        Check.dueState(about + "securityCost", () -> prices.securityCost(i, 0));
        Check.dueState(about + "flow", () -> prices.flow(i, 0, 0));
        Check.dueState(about + "price", () -> prices.price(i, 0, 0));
        Check.dueState(about + "reserve", () -> prices.reserve(i, 0));
        Check.dueState(about + "surplus", () -> prices.surplus(i, 0));
        Check.dueState(about + "paid", () -> prices.paid(i, 0, 0));
    }

    private void compareFlows(int i, Ratio[] outputs) {
        Ratio[] flows = oracle.flowsOf(i, outputs, -1);
        Ratio[] after = oracle.outage < 0 ? null : oracle.flowsOf(i, outputs, oracle.outage);
        int bits = 0;
        int bitsAfter = 0;
        for (int line = 0; line < flows.length; line++) {
            int l = line;
            int limit = oracle.lines.get(l)[2];
            due("flow " + l, flows[l], part -> prices.flow(i, l, part));
            float load = ((float) flows[l].abs().part(0) / (float) flows[l].part(1)) / (float) limit;
            Check.due(about + "loadBits " + l, prices.loadBits(i, l), Float.floatToIntBits(load));
            bits |= flows[l].abs().equals(Ratio.of(limit)) ? 1 << l : 0;
            if (after == null) {
                Check.dueState(about + "flowAfter", () -> prices.flowAfter(i, l, 0));
            } else {
                due("flowAfter " + l, after[l], part -> prices.flowAfter(i, l, part));
                bitsAfter |= after[l].abs().equals(Ratio.of(oracle.lines.get(l)[3])) ? 1 << l : 0;
            }
        }
        Check.due(about + "binding", prices.binding(i, false), bits);
        Check.due(about + "binding after", prices.binding(i, true), bitsAfter);
    }

    private void compareLineValues(int i, Ratio least) {
        for (int line = 0; line < oracle.lines.size(); line++) {
            int l = line;
            Oracle wider = oracle.copy();
            int[] numbers = wider.lines.get(l);
            numbers[2]++;
            numbers[3] = Math.max(numbers[2], numbers[3]);
            due("lineValue " + l, least.minus(wider.leastCost(i)), part -> prices.lineValue(i, l, part));
        }
    }

    private void comparePrices(int i, Ratio[] outputs) {
        Ratio[] due = new Ratio[oracle.nodes];
        boolean isWhole = true;
        for (int node = 0; node < oracle.nodes; node++) {
            int n = node;
            due[n] = oracle.price(i, n);
            isWhole &= due[n] != null;
            if (due[n] == null) {
                Check.dueMissing(about + "price " + n, () -> prices.price(i, n, 0));
            } else {
                due("price " + n, due[n], part -> prices.price(i, n, part));
            }
            int reserve = 0;
            while (reserve < 20 && oracle.withDemand(i, n, reserve + 1).leastCost(i) != null) {
                reserve++;
            }
            Check.due(about + "reserve " + n, prices.reserve(i, n), reserve);
        }
        compareProfits(i, outputs, due);
        compareRents(i, outputs, due);
        compareTargets(i, due);
        if (isWhole) {
            compareSettlement(i, outputs, due);
        } else {
            Check.dueMissing(about + "surplus", () -> prices.surplus(i, 0));
            Check.dueMissing(about + "meanPrice", () -> prices.meanPrice(i));
            Check.dueMissing(about + "dearestNode", () -> prices.dearestNode(i));
            Check.dueMissing(about + "fundingRatio", () -> prices.fundingRatio(i, 0));
            Check.dueMissing(about + "paid", () -> prices.paid(i, 3, 0));
        }
    }

    private void compareProfits(int i, Ratio[] outputs, Ratio[] due) {
        for (int generator = 0; generator < outputs.length; generator++) {
            int g = generator;
            int[] numbers = oracle.generators.get(g);
            if (due[numbers[0]] == null) {
                Check.dueMissing(about + "profit", () -> prices.profit(i, g, 0));
            } else {
                Ratio profit = outputs[g].times(due[numbers[0]].minus(Ratio.of(numbers[1])));
                due("profit " + g, profit, part -> prices.profit(i, g, part));
            }
        }
    }

    private void compareRents(int i, Ratio[] outputs, Ratio[] due) {
        Ratio[] flows = oracle.flowsOf(i, outputs, -1);
        for (int line = 0; line < flows.length; line++) {
            int l = line;
            Ratio from = due[oracle.lines.get(l)[0]];
            Ratio to = due[oracle.lines.get(l)[1]];
            if (from == null || to == null) {
                Check.dueMissing(about + "rent", () -> prices.rent(i, l, 0));
            } else {
                due("rent " + l, flows[l].times(to.minus(from)), part -> prices.rent(i, l, part));
            }
        }
    }

    private void compareTargets(int i, Ratio[] due) {
        for (int right = 0; right < oracle.rights.size(); right++) {
            int r = right;
            int[] numbers = oracle.rights.get(r);
            if (due[numbers[1]] == null || due[numbers[2]] == null) {
                Check.dueMissing(about + "target", () -> prices.target(i, r, 0));
            } else {
                due("target " + r, target(due, numbers), part -> prices.target(i, r, part));
            }
        }
    }

    private static Ratio target(Ratio[] due, int[] right) {
        return due[right[2]].minus(due[right[1]]).times(right[3]);
    }

    private void compareSettlement(int i, Ratio[] outputs, Ratio[] due) {
        Ratio payments = Ratio.ZERO;
        int total = 0;
        int dearest = 0;
        for (int node = 0; node < oracle.nodes; node++) {
            payments = payments.plus(due[node].times(oracle.demands[i][node]));
            total += oracle.demands[i][node];
            dearest = due[node].compareTo(due[dearest]) > 0 ? node : dearest;
        }
        Check.due(about + "dearestNode", prices.dearestNode(i), dearest);
        if (total == 0) {
            Check.dueMissing(about + "meanPrice", () -> prices.meanPrice(i));
        } else {
            double mean = ((double) payments.part(0) / (double) payments.part(1)) / (double) total;
            Check.dueDouble(about + "meanPrice", prices.meanPrice(i), mean);
        }
        Ratio surplus = payments;
        for (int generator = 0; generator < outputs.length; generator++) {
            surplus = surplus.minus(outputs[generator].times(due[oracle.generators.get(generator)[0]]));
        }
        due("surplus", surplus, part -> prices.surplus(i, part));
        compareFunding(i, due, surplus);
    }

    private void compareFunding(int i, Ratio[] due, Ratio surplus) {
        Ratio credit = Ratio.ZERO;
        Ratio debt = Ratio.ZERO;
        for (int[] right : oracle.rights) {
            Ratio target = target(due, right);
            credit = target.sign() > 0 ? credit.plus(target) : credit;
            debt = target.sign() < 0 ? debt.plus(target.abs()) : debt;
        }
        Ratio fund = surplus.plus(debt);
        fund = fund.sign() < 0 ? Ratio.ZERO : fund;
        Ratio ratio = fund.compareTo(credit) < 0 ? fund.over(credit) : Ratio.ONE;
        due("fundingRatio", ratio, part -> prices.fundingRatio(i, part));
        for (int holder = 0; holder < 4; holder++) {
            int h = holder;
            Ratio sum = Ratio.ZERO;
            for (int[] right : oracle.rights) {
                Ratio target = target(due, right);
                sum = right[0] != h ? sum : sum.plus(target.sign() > 0 ? target.times(ratio) : target);
            }
            due("paid " + h, sum, part -> prices.paid(i, h, part));
        }
    }
}
