import java.util.ArrayList;
import java.util.NoSuchElementException;

/**
 * Locational marginal pricing on a small grid: transfer factors, least-cost dispatch, prices,
 * congestion rents and the settlement of transmission rights, all as exact fractions.
 */
public final class GridPrices {

    /** There is no such value. */
    public static final int NONE = -1;

    private static final int MAX_TEXT = 700;
    private static final int BYTES_PER_APPEND = 20;
    private static final int MIN_NODES = 2;
    private static final int MAX_NODES = 4;
    private static final int MAX_INTERVALS = 4;
    private static final int MAX_LINES = 6;
    private static final int MAX_GENERATORS = 5;
    private static final int MAX_RIGHTS = 6;
    private static final int HOLDERS = 4;
    private static final int MAX_LIMIT = 200;
    private static final int MAX_EMERGENCY = 400;
    private static final int MAX_COST = 99;
    private static final int MAX_CAPACITY = 200;
    private static final int MAX_DEMAND = 200;
    private static final int MAX_QUANTITY = 100;
    private static final int MAX_RESERVE = 20;
    private static final int MAX_UNDO = 10;

    private static final int LIMIT_CHANGE = 0;
    private static final int COST_CHANGE = 1;
    private static final int CAPACITY_CHANGE = 2;
    private static final int DEMAND_CHANGE = 3;
    private static final int OUTAGE_CHANGE = 4;

    private final Reader reader;
    private final Problem problem;
    /** The factors of the whole grid, and of the grid without the line of the outage. */
    private final Factors factors = new Factors();
    private final Factors factorsAfter = new Factors();
    private final ArrayList<Change> changes = new ArrayList<>();
    /** What is known of each interval; null where nothing is known since the latest change. */
    private final Dispatch[] dispatches = new Dispatch[MAX_INTERVALS];
    private Grid grid;

    public GridPrices() {
        grid = new Grid();
        grid.nodes = 2;
        grid.intervals = 1;
        grid.addLine(0, 1, 1, 1);
        reader = new Reader(grid);
        problem = new Problem(grid, factors, factorsAfter);
        computeFactors();
    }

    // ---- the text

    public int append(int a, int b, int c, int d, int e) throws IllegalStateException {
        if (reader.length + BYTES_PER_APPEND > MAX_TEXT) {
            throw new IllegalStateException("the text would be too long");
        }
        reader.addBytes(a);
        reader.addBytes(b);
        reader.addBytes(c);
        reader.addBytes(d);
        reader.addBytes(e);
        return reader.length;
    }

    public int truncate(int length) throws IndexOutOfBoundsException {
        if (length < 0 || length > reader.length) {
            throw new IndexOutOfBoundsException("no such length");
        }
        reader.length = length;
        return length;
    }

    public int load() throws IllegalArgumentException {
        grid = reader.readText();
        changes.clear();
        computeFactors();
        forgetDispatches();
        return grid.lines;
    }

    public int errorCode() {
        return reader.errorCode;
    }

    public int errorPosition() {
        return reader.errorPosition;
    }

    // ---- the grid

    public int count(int what) throws IllegalArgumentException {
        switch (what) {
            case 0:
                return grid.nodes;
            case 1:
                return grid.intervals;
            case 2:
                return grid.lines;
            case 3:
                return grid.generators;
            case 4:
                return grid.rights;
            default:
                throw new IllegalArgumentException("what is out of range");
        }
    }

    public int line(int line, int what) throws IndexOutOfBoundsException, IllegalArgumentException {
        checkLine(line);
        switch (what) {
            case 0:
                return grid.lineFrom[line];
            case 1:
                return grid.lineTo[line];
            case 2:
                return grid.limit[line];
            case 3:
                return grid.emergency[line];
            default:
                throw new IllegalArgumentException("what is out of range");
        }
    }

    public int generator(int generator, int what) throws IndexOutOfBoundsException, IllegalArgumentException {
        checkGenerator(generator);
        switch (what) {
            case 0:
                return grid.generatorNode[generator];
            case 1:
                return grid.cost[generator];
            case 2:
                return grid.capacity[generator];
            default:
                throw new IllegalArgumentException("what is out of range");
        }
    }

    public int demand(int interval, int node) throws IndexOutOfBoundsException {
        checkInterval(interval);
        checkNode(node);
        return grid.demands[interval][node];
    }

    public int outage() {
        return grid.outage;
    }

    // ---- changes

    public int setLimit(int line, int limit) throws IndexOutOfBoundsException, IllegalArgumentException {
        checkLine(line);
        checkRange(limit, 1, MAX_LIMIT);
        int previous = grid.limit[line];
        remember(new Change(LIMIT_CHANGE, line, NONE, previous, grid.emergency[line]));
        grid.limit[line] = limit;
        grid.emergency[line] = Math.max(grid.emergency[line], limit);
        return previous;
    }

    public int setCost(int generator, int cost) throws IndexOutOfBoundsException, IllegalArgumentException {
        checkGenerator(generator);
        checkRange(cost, 0, MAX_COST);
        int previous = grid.cost[generator];
        remember(new Change(COST_CHANGE, generator, NONE, previous, NONE));
        grid.cost[generator] = cost;
        return previous;
    }

    public int setCapacity(int generator, int capacity) throws IndexOutOfBoundsException, IllegalArgumentException {
        checkGenerator(generator);
        checkRange(capacity, 1, MAX_CAPACITY);
        int previous = grid.capacity[generator];
        remember(new Change(CAPACITY_CHANGE, generator, NONE, previous, NONE));
        grid.capacity[generator] = capacity;
        return previous;
    }

    public int setDemand(int interval, int node, int demand) throws IndexOutOfBoundsException, IllegalArgumentException {
        checkInterval(interval);
        checkNode(node);
        checkRange(demand, 0, MAX_DEMAND);
        int previous = grid.demands[interval][node];
        remember(new Change(DEMAND_CHANGE, interval, node, previous, NONE));
        grid.demands[interval][node] = demand;
        return previous;
    }

    public int setOutage(int line) throws IndexOutOfBoundsException, IllegalArgumentException {
        if (line != NONE) {
            checkLine(line);
            checkSpare(line);
        }
        int previous = grid.outage;
        remember(new Change(OUTAGE_CHANGE, NONE, NONE, previous, NONE));
        grid.outage = line;
        computeFactors();
        return previous;
    }

    public int undo() throws IllegalStateException {
        if (changes.isEmpty()) {
            throw new IllegalStateException("no change can be undone");
        }
        takeBack(changes.remove(changes.size() - 1));
        computeFactors();
        forgetDispatches();
        return changes.size();
    }

    // ---- transfer factors

    public long factor(int line, int node, int part) throws IndexOutOfBoundsException, IllegalArgumentException {
        checkLine(line);
        checkNode(node);
        checkPart(part);
        return factors.of(line, node).part(part);
    }

    public long outageFactor(int line, int node, int part)
            throws IndexOutOfBoundsException, IllegalArgumentException, IllegalStateException {
        checkLine(line);
        checkNode(node);
        checkPart(part);
        checkOutage();
        return factorsAfter.of(line, node).part(part);
    }

    public long transferLimit(int from, int to, int part) throws IndexOutOfBoundsException, IllegalArgumentException {
        checkNode(from);
        checkNode(to);
        checkPart(part);
        if (from == to) {
            throw new IllegalArgumentException("the nodes are the same");
        }
        return greatestTransfer(from, to).part(part);
    }

    // ---- dispatch

    public boolean isFeasible(int interval) throws IndexOutOfBoundsException {
        checkInterval(interval);
        return dispatchOf(interval).hasAnswer;
    }

    public long leastCost(int interval, int part)
            throws IndexOutOfBoundsException, IllegalArgumentException, IllegalStateException {
        checkInterval(interval);
        checkPart(part);
        return feasibleDispatch(interval).cost.part(part);
    }

    public long congestionCost(int interval, int part)
            throws IndexOutOfBoundsException, IllegalArgumentException, IllegalStateException {
        checkInterval(interval);
        checkPart(part);
        Dispatch dispatch = feasibleDispatch(interval);
        problem.take(grid, interval);
        problem.hasLimits = false;
        return dispatch.cost.minus(costOfProblem()).part(part);
    }

    public long output(int interval, int generator, int part)
            throws IndexOutOfBoundsException, IllegalArgumentException, IllegalStateException {
        checkInterval(interval);
        checkGenerator(generator);
        checkPart(part);
        return feasibleDispatch(interval).outputs[generator].part(part);
    }

    public long flow(int interval, int line, int part)
            throws IndexOutOfBoundsException, IllegalArgumentException, IllegalStateException {
        checkInterval(interval);
        checkLine(line);
        checkPart(part);
        return flowOf(feasibleDispatch(interval), factors, line).part(part);
    }

    public long flowAfter(int interval, int line, int part)
            throws IndexOutOfBoundsException, IllegalArgumentException, IllegalStateException {
        checkInterval(interval);
        checkLine(line);
        checkPart(part);
        checkOutage();
        return flowOf(feasibleDispatch(interval), factorsAfter, line).part(part);
    }

    public int binding(int interval, boolean isAfter) throws IndexOutOfBoundsException, IllegalStateException {
        checkInterval(interval);
        Dispatch dispatch = feasibleDispatch(interval);
        if (!isAfter) {
            return linesAtLimit(dispatch, factors, grid.limit);
        }
        return grid.outage == NONE ? 0 : linesAtLimit(dispatch, factorsAfter, grid.emergency);
    }

    public int loadBits(int interval, int line) throws IndexOutOfBoundsException, IllegalStateException {
        checkInterval(interval);
        checkLine(line);
        Fraction size = flowOf(feasibleDispatch(interval), factors, line).absolute();
        return bitsOf(((float) size.numerator / (float) size.denominator) / (float) grid.limit[line]);
    }

    // ---- prices

    public long price(int interval, int node, int part)
            throws IndexOutOfBoundsException, IllegalArgumentException, IllegalStateException, NoSuchElementException {
        checkInterval(interval);
        checkNode(node);
        checkPart(part);
        return priceAt(feasibleDispatch(interval), node).part(part);
    }

    public double meanPrice(int interval)
            throws IndexOutOfBoundsException, IllegalStateException, NoSuchElementException {
        checkInterval(interval);
        Dispatch dispatch = feasibleDispatch(interval);
        Fraction payments = Fraction.whole(0);
        int total = 0;
        for (int node = 0; node < grid.nodes; node++) {
            int wanted = grid.demands[interval][node];
            payments = payments.plus(priceAt(dispatch, node).times(wanted));
            total += wanted;
        }
        if (total == 0) {
            throw new NoSuchElementException("all demands are 0");
        }
        return ((double) payments.numerator / (double) payments.denominator) / (double) total;
    }

    public int dearestNode(int interval)
            throws IndexOutOfBoundsException, IllegalStateException, NoSuchElementException {
        checkInterval(interval);
        Dispatch dispatch = feasibleDispatch(interval);
        int dearest = 0;
        for (int node = 0; node < grid.nodes; node++) {
            if (priceAt(dispatch, dearest).isLess(priceAt(dispatch, node))) {
                dearest = node;
            }
        }
        return dearest;
    }

    // ---- settlement

    public long profit(int interval, int generator, int part)
            throws IndexOutOfBoundsException, IllegalArgumentException, IllegalStateException, NoSuchElementException {
        checkInterval(interval);
        checkGenerator(generator);
        checkPart(part);
        Dispatch dispatch = feasibleDispatch(interval);
        Fraction price = priceAt(dispatch, grid.generatorNode[generator]);
        Fraction margin = price.minus(Fraction.whole(grid.cost[generator]));
        return dispatch.outputs[generator].times(margin).part(part);
    }

    public long rent(int interval, int line, int part)
            throws IndexOutOfBoundsException, IllegalArgumentException, IllegalStateException, NoSuchElementException {
        checkInterval(interval);
        checkLine(line);
        checkPart(part);
        Dispatch dispatch = feasibleDispatch(interval);
        Fraction rise = priceAt(dispatch, grid.lineTo[line]).minus(priceAt(dispatch, grid.lineFrom[line]));
        return flowOf(dispatch, factors, line).times(rise).part(part);
    }

    public long surplus(int interval, int part)
            throws IndexOutOfBoundsException, IllegalArgumentException, IllegalStateException, NoSuchElementException {
        checkInterval(interval);
        checkPart(part);
        return surplusOf(feasibleDispatch(interval)).part(part);
    }

    // ---- transmission rights

    public boolean areRightsFeasible() {
        for (int line = 0; line < grid.lines; line++) {
            if (Math.abs(scaledFlowOfRights(line)) > factors.trees * grid.limit[line]) {
                return false;
            }
        }
        return true;
    }

    public long target(int interval, int right, int part)
            throws IndexOutOfBoundsException, IllegalArgumentException, IllegalStateException, NoSuchElementException {
        checkInterval(interval);
        checkIndex(right, grid.rights);
        checkPart(part);
        return targetOf(feasibleDispatch(interval), right).part(part);
    }

    public long fundingRatio(int interval, int part)
            throws IndexOutOfBoundsException, IllegalArgumentException, IllegalStateException, NoSuchElementException {
        checkInterval(interval);
        checkPart(part);
        Dispatch dispatch = feasibleDispatch(interval);
        return ratioOf(dispatch, surplusOf(dispatch)).part(part);
    }

    public long paid(int interval, int holder, int part)
            throws IndexOutOfBoundsException, IllegalArgumentException, IllegalStateException, NoSuchElementException {
        checkInterval(interval);
        checkIndex(holder, HOLDERS);
        checkPart(part);
        Dispatch dispatch = feasibleDispatch(interval);
        Fraction ratio = ratioOf(dispatch, surplusOf(dispatch));
        Fraction credit = Fraction.whole(0);
        Fraction debt = Fraction.whole(0);
        for (int right = 0; right < grid.rights; right++) {
            if (grid.holder[right] == holder) {
                Fraction target = targetOf(dispatch, right);
                credit = target.numerator > 0 ? credit.plus(target) : credit;
                debt = target.numerator < 0 ? debt.plus(target) : debt;
            }
        }
        return credit.timesPlus(ratio, debt).part(part);
    }

    // ---- what would be

    public long lineValue(int interval, int line, int part)
            throws IndexOutOfBoundsException, IllegalArgumentException, IllegalStateException {
        checkInterval(interval);
        checkLine(line);
        checkPart(part);
        Dispatch dispatch = feasibleDispatch(interval);
        problem.take(grid, interval);
        problem.raiseLimit(line);
        return dispatch.cost.minus(costOfProblem()).part(part);
    }

    public int reserve(int interval, int node) throws IndexOutOfBoundsException, IllegalStateException {
        checkInterval(interval);
        checkNode(node);
        feasibleDispatch(interval);
        int surely = 0;
        // The feasible additions are all those up to a greatest one, so halving steps find it.
        for (int step = 16; step > 0; step /= 2) {
            if (surely + step <= MAX_RESERVE && canServe(interval, node, surely + step)) {
                surely += step;
            }
        }
        return surely;
    }

    public long securityCost(int interval, int part)
            throws IndexOutOfBoundsException, IllegalArgumentException, IllegalStateException {
        checkInterval(interval);
        checkPart(part);
        Dispatch dispatch = feasibleDispatch(interval);
        problem.take(grid, interval);
        problem.outage = NONE;
        return dispatch.cost.minus(costOfProblem()).part(part);
    }

    // ---- tests of arguments

    private static void checkIndex(int index, int size) {
        if (index < 0 || index >= size) {
            throw new IndexOutOfBoundsException("no such number");
        }
    }

    private void checkLine(int line) {
        checkIndex(line, grid.lines);
    }

    private void checkNode(int node) {
        checkIndex(node, grid.nodes);
    }

    private void checkGenerator(int generator) {
        checkIndex(generator, grid.generators);
    }

    private void checkInterval(int interval) {
        checkIndex(interval, grid.intervals);
    }

    private static void checkRange(int value, int low, int high) {
        if (value < low || value > high) {
            throw new IllegalArgumentException("the value is out of range");
        }
    }

    private static void checkPart(int part) {
        checkRange(part, 0, 1);
    }

    private void checkSpare(int line) {
        if (!reader.isConnected(grid, line)) {
            throw new IllegalArgumentException("the other lines do not connect all nodes");
        }
    }

    private void checkOutage() {
        if (grid.outage == NONE) {
            throw new IllegalStateException("there is no outage");
        }
    }

    // ---- changes inside

    private void remember(Change change) {
        if (changes.size() >= MAX_UNDO) {
            changes.remove(0);
        }
        changes.add(change);
        forgetDispatches();
    }

    private void forgetDispatches() {
        for (int interval = 0; interval < MAX_INTERVALS; interval++) {
            dispatches[interval] = null;
        }
    }

    private void takeBack(Change change) {
        switch (change.kind) {
            case LIMIT_CHANGE:
                grid.limit[change.place] = change.before;
                grid.emergency[change.place] = change.emergencyBefore;
                break;
            case COST_CHANGE:
                grid.cost[change.place] = change.before;
                break;
            case CAPACITY_CHANGE:
                grid.capacity[change.place] = change.before;
                break;
            case DEMAND_CHANGE:
                grid.demands[change.place][change.node] = change.before;
                break;
            default:
                grid.outage = change.before;
                break;
        }
    }

    // ---- flows inside

    private void computeFactors() {
        factors.compute(grid, NONE);
        factorsAfter.compute(grid, grid.outage);
    }

    private Fraction greatestTransfer(int from, int to) {
        Fraction greatest = Fraction.whole(0);
        boolean isBounded = false;
        for (int line = 0; line < grid.lines; line++) {
            long share = Math.abs(factors.scaled[line][from] - factors.scaled[line][to]);
            if (share > 0) {
                Fraction bound = Fraction.of(grid.limit[line] * factors.trees, share);
                greatest = !isBounded || bound.isLess(greatest) ? bound : greatest;
                isBounded = true;
            }
        }
        return greatest;
    }

    private long scaledFlowOfRights(int line) {
        long flow = 0;
        for (int right = 0; right < grid.rights; right++) {
            long share = factors.scaled[line][grid.rightFrom[right]] - factors.scaled[line][grid.rightTo[right]];
            flow += share * grid.quantity[right];
        }
        return flow;
    }

    private Fraction flowOf(Dispatch dispatch, Factors shares, int line) {
        long[] scaled = shares.scaled[line];
        Fraction sum = Fraction.whole(0);
        for (int generator = 0; generator < grid.generators; generator++) {
            sum = sum.plus(dispatch.outputs[generator].times(scaled[grid.generatorNode[generator]]));
        }
        long drawn = 0;
        for (int node = 0; node < grid.nodes; node++) {
            drawn += scaled[node] * grid.demands[dispatch.interval][node];
        }
        return sum.minus(Fraction.whole(drawn)).over(Fraction.whole(shares.trees));
    }

    private int linesAtLimit(Dispatch dispatch, Factors shares, int[] limits) {
        int bits = 0;
        for (int line = 0; line < grid.lines; line++) {
            if (flowOf(dispatch, shares, line).absolute().isWhole(limits[line])) {
                bits |= 1 << line;
            }
        }
        return bits;
    }

    /**
     * The bits of a float from 0 to below 2, found by exact doubling. No load is greater: a flow is at
     * most its limit.
     */
    private static int bitsOf(float value) {
        if (!(value > 0)) {
            return 0;
        }
        int exponent = 127;
        float rest = value;
        for (int step = 0; step < 126 && rest < 1; step++) {
            rest *= 2;
            exponent--;
        }
        return (exponent << 23) + (int) ((rest - 1) * 8388608f);
    }

    // ---- dispatch inside

    private Dispatch dispatchOf(int interval) {
        Dispatch known = dispatches[interval];
        if (known == null) {
            problem.take(grid, interval);
            boolean hasAnswer = problem.solve();
            known = new Dispatch(interval, hasAnswer, problem.costFound(), problem.outputsFound());
            dispatches[interval] = known;
        }
        return known;
    }

    private Dispatch feasibleDispatch(int interval) {
        Dispatch dispatch = dispatchOf(interval);
        if (!dispatch.hasAnswer) {
            throw new IllegalStateException("the interval is infeasible");
        }
        return dispatch;
    }

    /** The least cost of a problem that is known to be feasible. */
    private Fraction costOfProblem() {
        problem.solve();
        return problem.costFound();
    }

    private boolean canServe(int interval, int node, int addition) {
        problem.take(grid, interval);
        problem.demand[node] += addition;
        return problem.solve();
    }

    // ---- prices and settlement inside

    private Fraction priceAt(Dispatch dispatch, int node) {
        if (!dispatch.isPriced[node]) {
            problem.take(grid, dispatch.interval);
            problem.demand[node]++;
            dispatch.prices[node] = problem.solve() ? problem.costFound().minus(dispatch.cost) : null;
            dispatch.isPriced[node] = true;
        }
        Fraction price = dispatch.prices[node];
        if (price == null) {
            throw new NoSuchElementException("the node has no price");
        }
        return price;
    }

    private Fraction surplusOf(Dispatch dispatch) {
        Fraction sum = Fraction.whole(0);
        for (int node = 0; node < grid.nodes; node++) {
            Fraction wanted = Fraction.whole(grid.demands[dispatch.interval][node]);
            Fraction bought = wanted.minus(producedAt(dispatch, node));
            sum = sum.plus(priceAt(dispatch, node).times(bought));
        }
        return sum;
    }

    private Fraction producedAt(Dispatch dispatch, int node) {
        Fraction sum = Fraction.whole(0);
        for (int generator = 0; generator < grid.generators; generator++) {
            if (grid.generatorNode[generator] == node) {
                sum = sum.plus(dispatch.outputs[generator]);
            }
        }
        return sum;
    }

    private Fraction targetOf(Dispatch dispatch, int right) {
        Fraction rise = priceAt(dispatch, grid.rightTo[right]).minus(priceAt(dispatch, grid.rightFrom[right]));
        return rise.times(grid.quantity[right]);
    }

    private Fraction ratioOf(Dispatch dispatch, Fraction surplus) {
        Fraction fund = surplus;
        Fraction credit = Fraction.whole(0);
        for (int right = 0; right < grid.rights; right++) {
            Fraction target = targetOf(dispatch, right);
            if (target.numerator > 0) {
                credit = credit.plus(target);
            } else {
                fund = fund.minus(target);
            }
        }
        fund = fund.numerator < 0 ? Fraction.whole(0) : fund;
        return fund.isLess(credit) ? fund.over(credit) : Fraction.whole(1);
    }

    // ---- the classes inside

    /** A fraction in lowest terms with a positive denominator. */
    private static final class Fraction {
        final long numerator;
        final long denominator;

        private Fraction(long numerator, long denominator) {
            this.numerator = numerator;
            this.denominator = denominator;
        }

        static Fraction whole(long value) {
            return new Fraction(value, 1);
        }

        /** The quotient of two numbers; 0 if the denominator is 0, which no caller passes. */
        static Fraction of(long numerator, long denominator) {
            if (denominator == 0) {
                return new Fraction(0, 1);
            }
            long shared = commonDivisor(numerator, denominator);
            long signed = denominator < 0 ? -shared : shared;
            return new Fraction(numerator / signed, denominator / signed);
        }

        /** The greatest common divisor, never less than 1, so that it may divide. */
        static long commonDivisor(long first, long second) {
            long greater = first < 0 ? -first : first;
            long less = second < 0 ? -second : second;
            // Euclid's steps on two longs are fewer than 100.
            for (int step = 0; step < 100 && less != 0; step++) {
                long rest = greater % less;
                greater = less;
                less = rest;
            }
            return greater < 1 ? 1 : greater;
        }

        long part(int part) {
            return part == 0 ? numerator : denominator;
        }

        Fraction plus(Fraction other) {
            // Dividing by what the denominators share first keeps the products small.
            long shared = commonDivisor(denominator, other.denominator);
            long mine = denominator / shared;
            long theirs = other.denominator / shared;
            return of(numerator * theirs + other.numerator * mine, mine * other.denominator);
        }

        Fraction minus(Fraction other) {
            long shared = commonDivisor(denominator, other.denominator);
            long mine = denominator / shared;
            long theirs = other.denominator / shared;
            return of(numerator * theirs - other.numerator * mine, mine * other.denominator);
        }

        Fraction times(Fraction other) {
            // Cancelling crosswise first keeps the products small, and in lowest terms.
            long left = commonDivisor(numerator, other.denominator);
            long right = commonDivisor(other.numerator, denominator);
            return new Fraction((numerator / left) * (other.numerator / right),
                    (denominator / right) * (other.denominator / left));
        }

        Fraction times(long factor) {
            return times(whole(factor));
        }

        /**
         * This fraction times a ratio plus a summand, right wherever both parts of the answer are longs.
         * The product alone may be far longer, so it is never made: what can be cancelled is found from
         * rests, and the parts are made after cancelling. The products of rests are longs if the denominators
         * of this fraction and of the summand have a common multiple below 2^31. Those of sums of targets
         * do: in no grid is the common denominator of all prices beyond 2^29.
         */
        Fraction timesPlus(Fraction ratio, Fraction summand) {
            long shared = commonDivisor(denominator, summand.denominator);
            long bottom = denominator / shared * summand.denominator;
            long left = numerator * (summand.denominator / shared);
            long right = summand.numerator * (denominator / shared);
            long cancelled = commonDivisor(left, ratio.denominator);
            long mine = left / cancelled;
            long scale = ratio.denominator / cancelled;
            // The answer is (mine * ratio.numerator + right * scale) / (bottom * scale). What is above shares
            // nothing with scale, because neither mine nor the ratio's numerator does.
            long rests = rest(mine, ratio.numerator, bottom) + rest(right, scale, bottom);
            long divisor = commonDivisor(rests, bottom);
            long carried = (rest(mine, ratio.numerator, divisor) + rest(right, scale, divisor)) / divisor;
            long top = quotient(mine, ratio.numerator, divisor) + quotient(right, scale, divisor) + carried;
            return new Fraction(top, bottom / divisor * scale);
        }

        /** With the rest below, a product is quotient * divisor + rest, even where it is no long. */
        private static long quotient(long first, long second, long divisor) {
            return divisor == 0 ? 0 : first / divisor * second + first % divisor * (second / divisor);
        }

        private static long rest(long first, long second, long divisor) {
            return divisor == 0 ? 0 : (first % divisor) * (second % divisor);
        }

        Fraction over(Fraction other) {
            return times(of(other.denominator, other.numerator));
        }

        Fraction absolute() {
            return numerator < 0 ? new Fraction(-numerator, denominator) : this;
        }

        boolean isLess(Fraction other) {
            return minus(other).numerator < 0;
        }

        boolean isWhole(long value) {
            return denominator == 1 && numerator == value;
        }
    }

    /** The grid as it was loaded and changed. */
    private static final class Grid {
        int nodes;
        int intervals;
        int lines;
        int generators;
        int rights;
        int outage = NONE;
        final int[] lineFrom = new int[MAX_LINES];
        final int[] lineTo = new int[MAX_LINES];
        final int[] limit = new int[MAX_LINES];
        final int[] emergency = new int[MAX_LINES];
        final int[] generatorNode = new int[MAX_GENERATORS];
        final int[] cost = new int[MAX_GENERATORS];
        final int[] capacity = new int[MAX_GENERATORS];
        final int[][] demands = new int[MAX_INTERVALS][MAX_NODES];
        final int[] holder = new int[MAX_RIGHTS];
        final int[] rightFrom = new int[MAX_RIGHTS];
        final int[] rightTo = new int[MAX_RIGHTS];
        final int[] quantity = new int[MAX_RIGHTS];

        void addLine(int from, int to, int most, int mostAfter) {
            if (lines < MAX_LINES) {
                lineFrom[lines] = from;
                lineTo[lines] = to;
                limit[lines] = most;
                emergency[lines] = mostAfter;
                lines++;
            }
        }

        void addGenerator(int node, int costPerUnit, int most) {
            if (generators < MAX_GENERATORS) {
                generatorNode[generators] = node;
                cost[generators] = costPerUnit;
                capacity[generators] = most;
                generators++;
            }
        }

        void addRight(int owner, int from, int to, int amount) {
            if (rights < MAX_RIGHTS) {
                holder[rights] = owner;
                rightFrom[rights] = from;
                rightTo[rights] = to;
                quantity[rights] = amount;
                rights++;
            }
        }
    }

    /** A change that can be undone. */
    private static final class Change {
        final int kind;
        final int place;
        final int node;
        final int before;
        final int emergencyBefore;

        Change(int kind, int place, int node, int before, int emergencyBefore) {
            this.kind = kind;
            this.place = place;
            this.node = node;
            this.before = before;
            this.emergencyBefore = emergencyBefore;
        }
    }

    /** What is known of an interval; the prices are found when they are first asked for. */
    private static final class Dispatch {
        final int interval;
        final boolean hasAnswer;
        final Fraction cost;
        final Fraction[] outputs;
        final boolean[] isPriced = new boolean[MAX_NODES];
        /** The prices; null for a node without a price. */
        final Fraction[] prices = new Fraction[MAX_NODES];

        Dispatch(int interval, boolean hasAnswer, Fraction cost, Fraction[] outputs) {
            this.interval = interval;
            this.hasAnswer = hasAnswer;
            this.cost = cost;
            this.outputs = outputs;
        }
    }

    /**
     * The transfer factors of a grid, as whole numbers over one denominator. By Kirchhoff's theorem
     * the determinant of the reduced Laplacian counts the spanning trees, and serves as denominator.
     */
    private static final class Factors {
        private static final int SIZE = MAX_NODES - 1;

        long trees;
        /** For each line and node the transfer factor times the number of trees. */
        final long[][] scaled = new long[MAX_LINES][MAX_NODES];
        private final long[][] laplacian = new long[SIZE][SIZE];
        /** The angle of the first node for an injection at the second one, times the number of trees. */
        private final long[][] angle = new long[MAX_NODES][MAX_NODES];

        Fraction of(int line, int node) {
            return Fraction.of(scaled[line][node], trees);
        }

        /** Computes the factors in the grid without a line (or NONE). */
        void compute(Grid grid, int without) {
            clearLaplacian(grid.nodes);
            for (int line = 0; line < grid.lines; line++) {
                if (line != without) {
                    addToLaplacian(grid.lineFrom[line] - 1, grid.lineTo[line] - 1);
                }
            }
            computeAngles();
            for (int line = 0; line < grid.lines; line++) {
                for (int node = 0; node < grid.nodes; node++) {
                    long difference = angle[grid.lineFrom[line]][node] - angle[grid.lineTo[line]][node];
                    scaled[line][node] = line == without ? 0 : difference;
                }
            }
        }

        /** Nodes that are not in the grid get a 1 on the diagonal, which leaves the determinant as it is. */
        private void clearLaplacian(int nodes) {
            for (int row = 0; row < SIZE; row++) {
                for (int column = 0; column < SIZE; column++) {
                    laplacian[row][column] = row == column && row >= nodes - 1 ? 1 : 0;
                }
            }
        }

        private void addToLaplacian(int from, int to) {
            if (from >= 0) {
                laplacian[from][from]++;
            }
            if (to >= 0) {
                laplacian[to][to]++;
            }
            if (from >= 0 && to >= 0) {
                laplacian[from][to]--;
                laplacian[to][from]--;
            }
        }

        private void computeAngles() {
            trees = 0;
            for (int row = 0; row < SIZE; row++) {
                for (int column = 0; column < SIZE; column++) {
                    angle[row + 1][column + 1] = cofactor(row, column);
                }
                trees += laplacian[0][row] * cofactor(0, row);
            }
        }

        /** A cofactor with its sign, by cyclic neighbours; the matrix is symmetric, so it need not be turned. */
        private long cofactor(int row, int column) {
            int below = (row + 1) % SIZE;
            int last = (row + 2) % SIZE;
            int right = (column + 1) % SIZE;
            int far = (column + 2) % SIZE;
            return laplacian[below][right] * laplacian[last][far] - laplacian[below][far] * laplacian[last][right];
        }
    }

    /** The dispatch of an interval as it is or as it would be: a copy of its numbers that may be altered. */
    private static final class Problem {
        final int[] demand = new int[MAX_NODES];
        final int[] limit = new int[MAX_LINES];
        final int[] emergency = new int[MAX_LINES];
        int outage;
        boolean hasLimits;
        private Grid grid;
        private final Factors factors;
        private final Factors factorsAfter;
        private final Program program = new Program();
        /** The row that is being written: a number, then one for the output of each generator. */
        private final long[] terms = new long[MAX_GENERATORS + 1];

        Problem(Grid grid, Factors factors, Factors factorsAfter) {
            this.grid = grid;
            this.factors = factors;
            this.factorsAfter = factorsAfter;
        }

        void take(Grid source, int interval) {
            grid = source;
            outage = source.outage;
            hasLimits = true;
            for (int node = 0; node < source.nodes; node++) {
                demand[node] = source.demands[interval][node];
            }
            for (int line = 0; line < source.lines; line++) {
                limit[line] = source.limit[line];
                emergency[line] = source.emergency[line];
            }
        }

        void raiseLimit(int line) {
            limit[line]++;
            emergency[line] = Math.max(emergency[line], limit[line]);
        }

        /** Finds the dispatch; answers whether there is one. */
        boolean solve() {
            program.begin(grid.cost, grid.generators);
            addBalance();
            addRanges();
            if (hasLimits) {
                addLines(factors, limit);
            }
            if (hasLimits && outage != NONE) {
                addLines(factorsAfter, emergency);
            }
            return program.minimize();
        }

        Fraction costFound() {
            return Fraction.of(program.table[0][0], program.divisor);
        }

        Fraction[] outputsFound() {
            Fraction[] outputs = new Fraction[MAX_GENERATORS];
            for (int generator = 0; generator < MAX_GENERATORS; generator++) {
                long scaled = generator < grid.generators ? program.table[generator + 1][0] : 0;
                outputs[generator] = Fraction.of(scaled, program.divisor);
            }
            return outputs;
        }

        private void addBalance() {
            long total = 0;
            for (int node = 0; node < grid.nodes; node++) {
                total += demand[node];
            }
            for (int generator = 0; generator < grid.generators; generator++) {
                terms[generator + 1] = 1;
            }
            terms[0] = -total;
            program.addRow(terms, 1);
            program.addRow(terms, -1);
        }

        private void addRanges() {
            for (int generator = 0; generator < grid.generators; generator++) {
                for (int term = 0; term <= grid.generators; term++) {
                    terms[term] = term == generator + 1 ? 1 : 0;
                }
                program.addRow(terms, 1);
                terms[0] = -grid.capacity[generator];
                program.addRow(terms, -1);
            }
        }

        private void addLines(Factors shares, int[] limits) {
            for (int line = 0; line < grid.lines; line++) {
                long most = limits[line] * shares.trees;
                long[] scaled = shares.scaled[line];
                for (int generator = 0; generator < grid.generators; generator++) {
                    terms[generator + 1] = scaled[grid.generatorNode[generator]];
                }
                long drawn = drawnFlow(scaled);
                terms[0] = most - drawn;
                program.addRow(terms, 1);
                terms[0] = -most - drawn;
                program.addRow(terms, -1);
            }
        }

        private long drawnFlow(long[] scaled) {
            long flow = 0;
            for (int node = 0; node < grid.nodes; node++) {
                flow += scaled[node] * demand[node];
            }
            return flow;
        }
    }

    /**
     * A linear program over the outputs: of all that make every row at least 0, the one of least cost,
     * of several the one with the least first output, and so on. It is solved by the lexicographic dual
     * simplex method. The table tells the cost and each output as a whole number plus a sum over the
     * free variables, all over one divisor; at the start the free variables are the outputs. Every column
     * but the first is lexicographically positive, so that setting the free variables to 0 is best, and
     * stays so: a row that is negative there is made free, in the place of the variable that costs least.
     * All divisions are without rest, because all numbers of the table are determinants of the rows.
     */
    private static final class Program {
        private static final int WIDTH = MAX_GENERATORS + 1;
        private static final int MAX_ROWS = 2 + 2 * MAX_GENERATORS + 4 * MAX_LINES;
        private static final int MAX_STEPS = 1000000;

        /** The first column, over the divisor, tells the cost and then each output. */
        final long[][] table = new long[WIDTH][WIDTH];
        long divisor;
        private int variables;
        private int rows;
        private final long[][] row = new long[MAX_ROWS][WIDTH];
        /** The row that is to be made free, over the free variables. */
        private final long[] entering = new long[WIDTH];

        void begin(int[] costs, int size) {
            variables = size;
            rows = 0;
            divisor = 1;
            for (int place = 0; place <= size; place++) {
                for (int column = 0; column <= size; column++) {
                    table[place][column] = place == column && place > 0 ? 1 : 0;
                }
            }
            for (int column = 1; column <= size; column++) {
                table[0][column] = costs[column - 1];
            }
        }

        void addRow(long[] terms, int sign) {
            if (rows < MAX_ROWS) {
                for (int column = 0; column <= variables; column++) {
                    row[rows][column] = sign * terms[column];
                }
                rows++;
            }
        }

        /** Answers whether the rows can all be at least 0. */
        boolean minimize() {
            for (int step = 0; step < MAX_STEPS; step++) {
                int negative = negativeRow();
                if (negative == NONE) {
                    return true;
                }
                expand(negative);
                int leaving = cheapestColumn();
                if (leaving == NONE) {
                    return false;
                }
                exchange(leaving);
            }
            return false;
        }

        /** A row that is negative while all free variables are 0. */
        private int negativeRow() {
            for (int index = 0; index < rows; index++) {
                long sum = row[index][0] * divisor;
                for (int term = 1; term <= variables; term++) {
                    sum += row[index][term] * table[term][0];
                }
                if (sum < 0) {
                    return index;
                }
            }
            return NONE;
        }

        private void expand(int index) {
            for (int column = 0; column <= variables; column++) {
                long sum = column == 0 ? row[index][0] * divisor : 0;
                for (int term = 1; term <= variables; term++) {
                    sum += row[index][term] * table[term][column];
                }
                entering[column] = sum;
            }
        }

        private int cheapestColumn() {
            int cheapest = NONE;
            for (int column = 1; column <= variables; column++) {
                if (entering[column] > 0 && (cheapest == NONE || isCheaper(column, cheapest))) {
                    cheapest = column;
                }
            }
            return cheapest;
        }

        private boolean isCheaper(int column, int other) {
            for (int place = 0; place <= variables; place++) {
                long left = table[place][column] * entering[other];
                long right = table[place][other] * entering[column];
                if (left != right) {
                    return left < right;
                }
            }
            return false;
        }

        private void exchange(int leaving) {
            long pivot = entering[leaving];
            if (divisor == 0) {
                return;
            }
            for (int place = 0; place <= variables; place++) {
                long share = table[place][leaving];
                for (int column = 0; column <= variables; column++) {
                    if (column != leaving) {
                        long product = table[place][column] * pivot - share * entering[column];
                        table[place][column] = product / divisor;
                    }
                }
            }
            divisor = pivot;
        }
    }

    /** The text buffer and the reading of the text, with the error of the latest reading. */
    private static final class Reader {
        private static final int WORD = 0;
        private static final int NUMBER = 1;
        private static final int SEMICOLON = 2;
        private static final int END = 3;
        private static final int WRONG = 4;
        private static final int MAX_DIGITS = 4;

        int length;
        int errorCode;
        int errorPosition = NONE;
        private final byte[] text = new byte[MAX_TEXT];
        private final Factors factors = new Factors();
        /** The grid that is being read, or was read last. */
        private Grid grid;
        private int end;
        private int kind;
        /** The current token stands from start to before stop; the one before it began at previousStart. */
        private int start;
        private int stop;
        private int previousStart;

        Reader(Grid grid) {
            this.grid = grid;
        }

        void addBytes(int bytes) {
            for (int shift = 24; shift >= 0; shift -= 8) {
                if (length < MAX_TEXT) {
                    text[length] = (byte) (bytes >> shift);
                    length++;
                }
            }
        }

        Grid readText() {
            end = length;
            length = 0;
            stop = 0;
            grid = new Grid();
            advance();
            readSizes();
            readLines();
            checkConnection();
            readGenerators();
            readDemands();
            readRights();
            readOutage();
            if (kind != END) {
                refuse(1, start);
            }
            errorCode = 0;
            errorPosition = NONE;
            return grid;
        }

        /** Answers whether the lines of a grid connect all nodes without a line (or NONE). */
        boolean isConnected(Grid lines, int without) {
            factors.compute(lines, without);
            return factors.trees > 0;
        }

        private void refuse(int code, int position) {
            errorCode = code;
            errorPosition = position;
            throw new IllegalArgumentException("the text has an error");
        }

        private void readSizes() {
            readWord("nodes");
            grid.nodes = readNumber(MIN_NODES, MAX_NODES);
            readWord("intervals");
            grid.intervals = readNumber(1, MAX_INTERVALS);
            readSemicolon();
        }

        private void readLines() {
            for (int count = 0; count <= MAX_LINES && isWord("line"); count++) {
                checkRoom(grid.lines, MAX_LINES);
                advance();
                int from = readNode();
                int to = readOtherNode(from);
                int limit = readNumber(1, MAX_LIMIT);
                int emergency = limit;
                if (isWord("emergency")) {
                    advance();
                    emergency = readNumber(limit, MAX_EMERGENCY);
                }
                readSemicolon();
                grid.addLine(from, to, limit, emergency);
            }
        }

        /** A token that cannot stand behind the lines is told before the lines that do not connect. */
        private void checkConnection() {
            boolean mayFollow = kind == END || isWord("generator") || isWord("demand") || isWord("right")
                    || isWord("outage");
            if (!mayFollow) {
                refuse(1, start);
            }
            if (!isConnected(grid, NONE)) {
                refuse(4, start);
            }
        }

        private void readGenerators() {
            for (int count = 0; count <= MAX_GENERATORS && isWord("generator"); count++) {
                checkRoom(grid.generators, MAX_GENERATORS);
                advance();
                int node = readNode();
                int cost = readNumber(0, MAX_COST);
                int capacity = readNumber(1, MAX_CAPACITY);
                readSemicolon();
                grid.addGenerator(node, cost, capacity);
            }
        }

        private void readDemands() {
            for (int count = 0; count < MAX_TEXT && isWord("demand"); count++) {
                advance();
                int interval = readNumber(0, grid.intervals - 1);
                int node = readNode();
                grid.demands[interval][node] = readNumber(0, MAX_DEMAND);
                readSemicolon();
            }
        }

        private void readRights() {
            for (int count = 0; count <= MAX_RIGHTS && isWord("right"); count++) {
                checkRoom(grid.rights, MAX_RIGHTS);
                advance();
                int holder = readNumber(0, HOLDERS - 1);
                int from = readNode();
                int to = readOtherNode(from);
                int quantity = readNumber(1, MAX_QUANTITY);
                readSemicolon();
                grid.addRight(holder, from, to, quantity);
            }
        }

        private void readOutage() {
            if (isWord("outage")) {
                advance();
                grid.outage = readNumber(0, grid.lines - 1);
                if (!isConnected(grid, grid.outage)) {
                    refuse(5, previousStart);
                }
                readSemicolon();
            }
        }

        private void checkRoom(int used, int most) {
            if (used >= most) {
                refuse(3, start);
            }
        }

        private void readWord(String word) {
            if (!isWord(word)) {
                refuse(1, start);
            }
            advance();
        }

        private void readSemicolon() {
            if (kind != SEMICOLON) {
                refuse(1, start);
            }
            advance();
        }

        private int readNumber(int low, int high) {
            if (kind != NUMBER) {
                refuse(1, start);
            }
            int number = valueOfToken();
            if (number < low || number > high) {
                refuse(2, start);
            }
            advance();
            return number;
        }

        private int readNode() {
            return readNumber(0, grid.nodes - 1);
        }

        private int readOtherNode(int first) {
            int node = readNumber(0, grid.nodes - 1);
            if (node == first) {
                refuse(2, previousStart);
            }
            return node;
        }

        private boolean isWord(String word) {
            if (kind != WORD || stop - start != word.length()) {
                return false;
            }
            for (int index = 0; index < word.length(); index++) {
                if (text[start + index] != word.charAt(index)) {
                    return false;
                }
            }
            return true;
        }

        private void advance() {
            previousStart = start;
            while (stop < end && (text[stop] == 10 || text[stop] == 32)) {
                stop++;
            }
            start = stop;
            if (start >= end) {
                kind = END;
                return;
            }
            byte first = text[start];
            if (first >= 'a' && first <= 'z') {
                takeRun('a', 'z');
                kind = WORD;
            } else if (first >= '0' && first <= '9') {
                takeRun('0', '9');
                kind = stop - start <= MAX_DIGITS ? NUMBER : WRONG;
            } else {
                stop++;
                kind = first == ';' ? SEMICOLON : WRONG;
            }
        }

        private void takeRun(char low, char high) {
            while (stop < end && text[stop] >= low && text[stop] <= high) {
                stop++;
            }
        }

        private int valueOfToken() {
            int number = 0;
            for (int index = start; index < stop; index++) {
                number = number * 10 + (text[index] - '0');
            }
            return number;
        }
    }
}
