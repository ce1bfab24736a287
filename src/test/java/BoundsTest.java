import java.util.ArrayList;
import java.util.List;
import java.util.Set;
import java.util.TreeSet;

/**
 * How long the numbers can be: the premise of Fraction.timesPlus and of the longs elsewhere. All grids of four
 * nodes and up to six lines are gone through, with every outage (those of fewer nodes have shorter numbers).
 * At a corner of the dispatch some generators at different nodes are between 0 and their capacity, and all
 * but one of them are fixed by a line at its limit: the outputs are over the determinant of these rows and
 * the balance. The least costs of an interval and of one more unit at each node have five such denominators.
 */
public final class BoundsTest {

    private static final int[][] PAIRS = {{0, 1}, {0, 2}, {0, 3}, {1, 2}, {1, 3}, {2, 3}};
    private static final long MAX_COST = 99;

    private static long mostDivisor;
    private static long mostCommon;
    private static double mostScaledPrice;

    private final List<long[]> rows = new ArrayList<>();
    private final Set<Long> divisors = new TreeSet<>();
    /** The most that the outputs change in all for one more unit of demand. */
    private double mostMoved;

    private BoundsTest() {
    }

    public static void main(String[] args) {
        chooseLines(new ArrayList<>(), 0);
        System.out.println("divisor " + mostDivisor + ", common denominator " + mostCommon + ", price times it "
                + mostScaledPrice);
        Check.due("the greatest divisor", mostDivisor, 256);
        Check.due("the greatest common denominator", mostCommon, 421152732);
        Check.due("it is below 2^29", mostCommon < 1L << 29, true);
        Check.due("a price times it is below 2^41", mostScaledPrice < 1L << 41, true);
        Check.end();
    }

    private static void chooseLines(List<int[]> lines, int first) {
        if (lines.size() >= 3) {
            for (int outage = -1; outage < lines.size(); outage++) {
                new BoundsTest().look(lines, outage);
            }
        }
        for (int pair = first; lines.size() < 6 && pair < PAIRS.length; pair++) {
            lines.add(PAIRS[pair]);
            chooseLines(lines, pair);
            lines.remove(lines.size() - 1);
        }
    }

    private void look(List<int[]> lines, int outage) {
        if (!addRows(lines, -1) || outage >= 0 && !addRows(lines, outage)) {
            return;
        }
        chooseRows(new ArrayList<>(), 0);
        Set<Long> common = new TreeSet<>(Set.of(1L));
        for (int dispatch = 0; dispatch < 5; dispatch++) {
            Set<Long> next = new TreeSet<>();
            common.forEach(one -> divisors.forEach(other -> next.add(one / shared(one, other) * other)));
            common = next;
        }
        long most = common.stream().max(Long::compare).orElse(1L);
        mostCommon = Math.max(mostCommon, most);
        mostScaledPrice = Math.max(mostScaledPrice, MAX_COST * mostMoved * most);
    }

    private static long shared(long one, long other) {
        return other == 0 ? one : shared(other, one % other);
    }

    /** Adds the factors times the number of trees; answers whether the lines connect all nodes. */
    private boolean addRows(List<int[]> lines, int without) {
        long[][] laplacian = new long[4][4];
        for (int line = 0; line < lines.size(); line++) {
            int from = lines.get(line)[0];
            int to = lines.get(line)[1];
            long weight = line == without ? 0 : 1;
            laplacian[from][from] += weight;
            laplacian[to][to] += weight;
            laplacian[from][to] -= weight;
            laplacian[to][from] -= weight;
        }
        if (determinant(minor(laplacian, 0, 0)) == 0) {
            return false;
        }
        for (int line = 0; line < lines.size(); line++) {
            long[] row = new long[4];
            for (int node = 1; node < 4 && line != without; node++) {
                row[node] = angle(laplacian, lines.get(line)[0], node) - angle(laplacian, lines.get(line)[1], node);
            }
            addNew(row);
        }
        return true;
    }

    private static long angle(long[][] laplacian, int node, int injected) {
        if (node == 0) {
            return 0;
        }
        long cofactor = determinant(minor(minor(laplacian, 0, 0), node - 1, injected - 1));
        return (node + injected) % 2 == 0 ? cofactor : -cofactor;
    }

    private void addNew(long[] row) {
        boolean isNew = row[1] != 0 || row[2] != 0 || row[3] != 0;
        for (long[] other : rows) {
            boolean isSame = true;
            boolean isTurned = true;
            for (int node = 1; node < 4; node++) {
                isSame &= other[node] == row[node];
                isTurned &= other[node] == -row[node];
            }
            isNew &= !isSame && !isTurned;
        }
        if (isNew) {
            rows.add(row);
        }
    }

    private void chooseRows(List<long[]> chosen, int first) {
        for (int nodes = 1; nodes < 16; nodes++) {
            if (Integer.bitCount(nodes) == chosen.size() + 1) {
                lookAt(chosen, nodes);
            }
        }
        for (int row = first; chosen.size() < 3 && row < rows.size(); row++) {
            chosen.add(rows.get(row));
            chooseRows(chosen, row + 1);
            chosen.remove(chosen.size() - 1);
        }
    }

    private void lookAt(List<long[]> chosen, int nodes) {
        int size = chosen.size() + 1;
        long[][] matrix = new long[size][size];
        int column = 0;
        for (int node = 0; node < 4; node++) {
            if ((nodes >> node & 1) != 0) {
                fill(matrix, column++, chosen, node);
            }
        }
        long divisor = Math.abs(determinant(matrix));
        if (divisor == 0) {
            return;
        }
        divisors.add(divisor);
        mostDivisor = Math.max(mostDivisor, divisor);
        for (int node = 0; node < 4; node++) {
            long moved = 0;
            for (int place = 0; place < size; place++) {
                long[][] replaced = new long[size][];
                for (int row = 0; row < size; row++) {
                    replaced[row] = matrix[row].clone();
                }
                fill(replaced, place, chosen, node);
                moved += Math.abs(determinant(replaced));
            }
            mostMoved = Math.max(mostMoved, (double) moved / divisor);
        }
    }

    /** A column: the balance, then the flow of each chosen row for an injection at the node. */
    private static void fill(long[][] matrix, int column, List<long[]> chosen, int node) {
        matrix[0][column] = 1;
        for (int row = 0; row < chosen.size(); row++) {
            matrix[row + 1][column] = chosen.get(row)[node];
        }
    }

    private static long[][] minor(long[][] matrix, int row, int column) {
        int size = matrix.length - 1;
        long[][] minor = new long[size][size];
        for (int i = 0; i < size; i++) {
            for (int j = 0; j < size; j++) {
                minor[i][j] = matrix[i < row ? i : i + 1][j < column ? j : j + 1];
            }
        }
        return minor;
    }

    private static long determinant(long[][] matrix) {
        if (matrix.length == 0) {
            return 1;
        }
        long sum = 0;
        for (int column = 0; column < matrix.length; column++) {
            if (matrix[0][column] != 0) {
                long product = matrix[0][column] * determinant(minor(matrix, 0, column));
                sum += column % 2 == 0 ? product : -product;
            }
        }
        return sum;
    }
}
