import java.util.ArrayList;
import java.util.List;

/**
 * The document's words, computed slowly and by other means than the program: the angles by Gauss's
 * elimination, the dispatch by going through all corners of the feasible outputs, the changes by
 * copies of the whole grid.
 */
final class Oracle {
    int nodes;
    int intervals;
    int outage = -1;
    List<int[]> lines = new ArrayList<>();      // from, to, limit, emergency limit
    List<int[]> generators = new ArrayList<>(); // node, cost, capacity
    List<int[]> rights = new ArrayList<>();     // holder, from, to, quantity
    int[][] demands = new int[4][4];

    Oracle copy() {
        Oracle copy = new Oracle();
        copy.nodes = nodes;
        copy.intervals = intervals;
        copy.outage = outage;
        lines.forEach(line -> copy.lines.add(line.clone()));
        generators.forEach(generator -> copy.generators.add(generator.clone()));
        rights.forEach(right -> copy.rights.add(right.clone()));
        for (int interval = 0; interval < 4; interval++) {
            copy.demands[interval] = demands[interval].clone();
        }
        return copy;
    }

    /** The grid as a text to load. */
    String text() {
        StringBuilder text = new StringBuilder();
        text.append("nodes ").append(nodes).append(" intervals ").append(intervals).append(";\n");
        for (int[] line : lines) {
            text.append("line ").append(line[0]).append(' ').append(line[1]).append(' ').append(line[2]);
            text.append(line[3] == line[2] ? "" : "emergency" + line[3]).append(";");
        }
        for (int[] generator : generators) {
            text.append("generator").append(numbers(generator));
        }
        for (int interval = 0; interval < intervals; interval++) {
            for (int node = 0; node < nodes; node++) {
                if (demands[interval][node] > 0) {
                    text.append("demand").append(numbers(interval, node, demands[interval][node]));
                }
            }
        }
        for (int[] right : rights) {
            text.append("right").append(numbers(right));
        }
        if (outage >= 0) {
            text.append("outage").append(numbers(outage));
        }
        return text.toString();
    }

    private static String numbers(int... numbers) {
        StringBuilder text = new StringBuilder();
        for (int number : numbers) {
            text.append(text.length() == 0 ? "" : " ").append(number);
        }
        return text.append(";").toString();
    }

    boolean isConnectedWithout(int without) {
        boolean[] reached = new boolean[nodes];
        reached[0] = true;
        for (int round = 0; round < nodes; round++) {
            for (int line = 0; line < lines.size(); line++) {
                int from = lines.get(line)[0];
                int to = lines.get(line)[1];
                if (line != without && (reached[from] || reached[to])) {
                    reached[from] = true;
                    reached[to] = true;
                }
            }
        }
        for (boolean node : reached) {
            if (!node) {
                return false;
            }
        }
        return true;
    }

    /** The flows of all lines for injections whose sum is 0. */
    Ratio[] flows(Ratio[] injections, int without) {
        int size = nodes - 1;
        Ratio[][] matrix = new Ratio[size][size + 1];
        for (int row = 0; row < size; row++) {
            for (int column = 0; column < size; column++) {
                matrix[row][column] = Ratio.of(laplacian(row + 1, column + 1, without));
            }
            matrix[row][size] = injections[row + 1];
        }
        Ratio[] solved = solve(matrix);
        Ratio[] flows = new Ratio[lines.size()];
        for (int line = 0; line < flows.length; line++) {
            Ratio from = angle(solved, lines.get(line)[0]);
            Ratio to = angle(solved, lines.get(line)[1]);
            flows[line] = line == without ? Ratio.ZERO : from.minus(to);
        }
        return flows;
    }

    private static Ratio angle(Ratio[] solved, int node) {
        return node == 0 ? Ratio.ZERO : solved[node - 1];
    }

    private int laplacian(int one, int other, int without) {
        int sum = 0;
        for (int line = 0; line < lines.size(); line++) {
            int from = lines.get(line)[0];
            int to = lines.get(line)[1];
            if (line == without) {
                continue;
            }
            if (one == other) {
                sum += from == one || to == one ? 1 : 0;
            } else {
                sum -= from == one && to == other || from == other && to == one ? 1 : 0;
            }
        }
        return sum;
    }

    /** Solves a square system by elimination; null if it has no single answer. */
    static Ratio[] solve(Ratio[][] matrix) {
        int size = matrix.length;
        for (int column = 0; column < size; column++) {
            int pivot = column;
            while (pivot < size && matrix[pivot][column].sign() == 0) {
                pivot++;
            }
            if (pivot == size) {
                return null;
            }
            Ratio[] swapped = matrix[pivot];
            matrix[pivot] = matrix[column];
            matrix[column] = swapped;
            for (int row = 0; row < size; row++) {
                if (row != column && matrix[row][column].sign() != 0) {
                    Ratio share = matrix[row][column].over(matrix[column][column]);
                    for (int term = column; term <= size; term++) {
                        matrix[row][term] = matrix[row][term].minus(share.times(matrix[column][term]));
                    }
                }
            }
        }
        Ratio[] answer = new Ratio[size];
        for (int row = 0; row < size; row++) {
            answer[row] = matrix[row][size].over(matrix[row][row]);
        }
        return answer;
    }

    Ratio factor(int line, int node, int without) {
        Ratio[] injections = zeros(nodes);
        injections[0] = Ratio.of(-1);
        injections[node] = node == 0 ? Ratio.ZERO : Ratio.ONE;
        injections[0] = node == 0 ? Ratio.ZERO : injections[0];
        return flows(injections, without)[line];
    }

    Ratio transferLimit(int from, int to) {
        Ratio[] injections = zeros(nodes);
        injections[from] = Ratio.ONE;
        injections[to] = Ratio.of(-1);
        Ratio[] flows = flows(injections, -1);
        Ratio least = null;
        for (int line = 0; line < flows.length; line++) {
            if (flows[line].sign() != 0) {
                Ratio bound = Ratio.of(lines.get(line)[2]).over(flows[line].abs());
                least = least == null || bound.compareTo(least) < 0 ? bound : least;
            }
        }
        return least;
    }

    static Ratio[] zeros(int size) {
        Ratio[] zeros = new Ratio[size];
        java.util.Arrays.fill(zeros, Ratio.ZERO);
        return zeros;
    }

    Ratio[] injections(int interval, Ratio[] outputs) {
        Ratio[] injections = zeros(nodes);
        for (int node = 0; node < nodes; node++) {
            injections[node] = Ratio.of(-demands[interval][node]);
        }
        for (int generator = 0; generator < outputs.length; generator++) {
            int node = generators.get(generator)[0];
            injections[node] = injections[node].plus(outputs[generator]);
        }
        return injections;
    }

    Ratio[] flowsOf(int interval, Ratio[] outputs, int without) {
        return flows(injections(interval, outputs), without);
    }

    Ratio cost(Ratio[] outputs) {
        Ratio sum = Ratio.ZERO;
        for (int generator = 0; generator < outputs.length; generator++) {
            sum = sum.plus(outputs[generator].times(generators.get(generator)[1]));
        }
        return sum;
    }

    /** The dispatch of an interval by all corners; null if there is none. */
    Ratio[] dispatch(int interval, boolean hasLimits) {
        return new Corners(rows(interval, hasLimits), total(interval)).best();
    }

    private int total(int interval) {
        int total = 0;
        for (int node = 0; node < nodes; node++) {
            total += demands[interval][node];
        }
        return total;
    }

    /** All rows: coefficients of the outputs, then a number; each must be at least 0 in sum. */
    private List<long[]> rows(int interval, boolean hasLimits) {
        List<long[]> rows = new ArrayList<>();
        int size = generators.size();
        for (int generator = 0; generator < size; generator++) {
            long[] low = new long[size + 1];
            long[] high = new long[size + 1];
            low[generator] = 1;
            high[generator] = -1;
            high[size] = generators.get(generator)[2];
            rows.add(low);
            rows.add(high);
        }
        if (hasLimits) {
            addLineRows(rows, interval, -1, 2);
            if (outage >= 0) {
                addLineRows(rows, interval, outage, 3);
            }
        }
        return rows;
    }

    private void addLineRows(List<long[]> rows, int interval, int without, int what) {
        int size = generators.size();
        long scale = 5040 * 11 * 13; // a multiple of every number of trees up to 16
        for (int line = 0; line < lines.size(); line++) {
            long[] up = new long[size + 1];
            long[] down = new long[size + 1];
            long most = scale * lines.get(line)[what];
            long drawn = 0;
            for (int node = 0; node < nodes; node++) {
                drawn += factor(line, node, without).times(scale).part(0) * demands[interval][node];
            }
            for (int generator = 0; generator < size; generator++) {
                down[generator] = factor(line, generators.get(generator)[0], without).times(scale).part(0);
                up[generator] = -down[generator];
            }
            up[size] = most + drawn;
            down[size] = most - drawn;
            shrink(up);
            shrink(down);
            addTightest(rows, up);
            addTightest(rows, down);
        }
    }

    /** Of rows with the same coefficients only the tightest one matters; the corners are many enough. */
    private static void addTightest(List<long[]> rows, long[] row) {
        int last = row.length - 1;
        for (long[] other : rows) {
            boolean isAlike = true;
            for (int term = 0; term < last; term++) {
                isAlike &= other[term] == row[term];
            }
            if (isAlike) {
                other[last] = Math.min(other[last], row[last]);
                return;
            }
        }
        rows.add(row);
    }

    private static void shrink(long[] row) {
        long shared = 0;
        for (long term : row) {
            long other = Math.abs(term);
            while (other != 0) {
                long rest = shared % other;
                shared = other;
                other = rest;
            }
        }
        for (int term = 0; shared != 0 && term < row.length; term++) {
            row[term] /= shared;
        }
    }

    /** Goes through all choices of rows that fix the outputs, and keeps the best corner that fits. */
    private final class Corners {
        private final List<long[]> rows;
        private final int size = generators.size();
        private final List<long[]> fixed = new ArrayList<>();
        private final long[] balance = new long[size + 1];
        private Ratio[] best;

        Corners(List<long[]> rows, int total) {
            this.rows = rows;
            java.util.Arrays.fill(balance, 1);
            balance[size] = -total;
        }

        Ratio[] best() {
            if (size == 0) {
                return balance[0] == 0 && fits(new long[] {1}) ? new Ratio[0] : null;
            }
            fixed.add(balance);
            choose(0);
            return best;
        }

        private void choose(int first) {
            if (fixed.size() == size) {
                tryCorner();
                return;
            }
            for (int row = first; row < rows.size(); row++) {
                fixed.add(rows.get(row));
                choose(row + 1);
                fixed.remove(fixed.size() - 1);
            }
        }

        /** The corner as whole numbers: the outputs times the last number, which is positive. */
        private long[] corner() {
            long[][] matrix = new long[size][];
            for (int row = 0; row < size; row++) {
                matrix[row] = fixed.get(row).clone();
            }
            long divisor = 1;
            for (int column = 0; column < size; column++) {
                int pivot = column;
                while (pivot < size && matrix[pivot][column] == 0) {
                    pivot++;
                }
                if (pivot == size) {
                    return null;
                }
                long[] swapped = matrix[pivot];
                matrix[pivot] = matrix[column];
                matrix[column] = swapped;
                for (int row = 0; row < size; row++) {
                    long share = matrix[row][column];
                    for (int term = 0; row != column && term <= size; term++) {
                        long product = Math.multiplyExact(matrix[row][term], matrix[column][column]);
                        long other = Math.multiplyExact(share, matrix[column][term]);
                        matrix[row][term] = Math.subtractExact(product, other) / divisor;
                    }
                }
                divisor = matrix[column][column];
            }
            long[] corner = new long[size + 1];
            for (int row = 0; row < size; row++) {
                corner[row] = divisor < 0 ? matrix[row][size] : -matrix[row][size];
            }
            corner[size] = Math.abs(divisor);
            return corner;
        }

        private void tryCorner() {
            long[] corner = corner();
            if (corner == null || !fits(corner)) {
                return;
            }
            Ratio[] outputs = new Ratio[size];
            for (int generator = 0; generator < size; generator++) {
                outputs[generator] = Ratio.of(corner[generator]).over(Ratio.of(corner[size]));
            }
            if (best == null || isBetter(outputs, best)) {
                best = outputs;
            }
        }

        private boolean fits(long[] corner) {
            for (long[] row : rows) {
                long sum = 0;
                for (int term = 0; term <= size; term++) {
                    sum = Math.addExact(sum, Math.multiplyExact(row[term], corner[term]));
                }
                if (sum < 0) {
                    return false;
                }
            }
            return true;
        }

        private boolean isBetter(Ratio[] one, Ratio[] other) {
            int order = cost(one).compareTo(cost(other));
            for (int generator = 0; order == 0 && generator < size; generator++) {
                order = one[generator].compareTo(other[generator]);
            }
            return order < 0;
        }
    }

    Ratio leastCost(int interval) {
        Ratio[] outputs = dispatch(interval, true);
        return outputs == null ? null : cost(outputs);
    }

    Oracle withDemand(int interval, int node, int more) {
        Oracle copy = copy();
        copy.demands[interval][node] += more;
        return copy;
    }

    /** The price of a node in a feasible interval; null if it has none. */
    Ratio price(int interval, int node) {
        Ratio greater = withDemand(interval, node, 1).leastCost(interval);
        return greater == null ? null : greater.minus(leastCost(interval));
    }
}
