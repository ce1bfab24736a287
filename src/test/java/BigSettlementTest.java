import java.math.BigInteger;
import java.util.List;
import java.util.NoSuchElementException;
import java.util.Random;

/**
 * Promises 30 and 32 to 38 on grids that make long fractions. Such grids are rare, so that three known ones
 * are changed in one number again and again, and a change stays if it makes the fractions no shorter. What
 * is settled is computed once more in numbers without bounds, from the outputs, flows and prices that the
 * program tells (OracleTest looks at those). The seeds are fixed.
 */
public final class BigSettlementTest {

    private static final String[] GRIDS = {
        "nodes 4 intervals 1;line 1 2 200;line 3 1 36;line 2 3 99;line 0 2 44;line 3 2 200;line 1 0 21 emergency 62;"
            + "generator 0 70 104;generator 1 49 8;generator 2 6 103;generator 1 0 87;generator 3 8 94;"
            + "demand 0 0 168;demand 0 1 122;demand 0 2 54;right 0 3 1 83;right 0 1 3 8;right 0 2 0 20;right 2 3 1 44;"
            + "outage 2;",
        "nodes 4 intervals 1;line 1 0 25 emergency 174;line 2 3 200;line 1 3 99;line 2 3 200;line 1 2 49;line 0 3 18;"
            + "generator 2 0 179;generator 1 6 29;generator 3 50 3;generator 0 91 3;demand 0 0 45;demand 0 1 30;"
            + "demand 0 3 72;right 0 3 1 7;right 3 2 0 33;right 3 0 1 6;right 3 3 0 71;outage 1;",
        "nodes 4 intervals 1;line 2 0 200;line 0 2 35 emergency 121;line 2 1 26;line 3 0 24;line 1 3 200;"
            + "line 2 3 200;generator 3 95 8;generator 1 1 151;generator 2 40 172;generator 0 9 4;demand 0 0 67;"
            + "demand 0 1 61;demand 0 2 90;demand 0 3 109;right 1 0 3 98;right 1 1 3 85;right 0 0 2 63;right 0 3 1 84;"
            + "right 1 3 2 5;outage 5;",
    };
    private static final int STEPS = 300;

    private static int longOnTheWay;
    private static int beyondLong;
    private static int mostBits;

    private final Random random;
    private Oracle grid = new Oracle();
    private GridPrices prices;
    private String about;
    private final Ratio[] price = new Ratio[4];
    /** How long the fractions of the grid are. */
    private int bits;

    private BigSettlementTest(long seed) {
        random = new Random(seed);
    }

    public static void main(String[] args) {
        int first = args.length > 0 ? Integer.parseInt(args[0]) : 1;
        int last = args.length > 1 ? Integer.parseInt(args[1]) : 60;
        for (int seed = first; seed <= last; seed++) {
            new BigSettlementTest(seed).climb();
        }
        System.out.println(longOnTheWay + " sums paid are longs with longer numbers on the way, " + beyondLong
                + " are no longs; " + mostBits + " bits");
        Check.due("there are longer numbers on the way", longOnTheWay > 100, true);
        Check.end();
    }

    private int from(int low, int high) {
        return low + random.nextInt(high - low + 1);
    }

    private void climb() {
        grid = read(GRIDS[from(0, GRIDS.length - 1)]);
        int reached = 0;
        for (int step = 0; step < STEPS; step++) {
            Oracle before = grid.copy();
            if (step > 0) {
                changeNumber();
            }
            bits = 0;
            settle();
            if (bits < reached) {
                grid = before;
            }
            reached = Math.max(reached, bits);
        }
        mostBits = Math.max(mostBits, reached);
    }

    /** Reads a grid as it is written above: a blank between any two tokens, and none before ";". */
    private static Oracle read(String text) {
        Oracle grid = new Oracle();
        for (String statement : text.split(";")) {
            String[] words = statement.replace(" emergency", "").split(" ");
            int[] numbers = new int[words.length - 1];
            for (int word = 1; word < words.length; word++) {
                numbers[word - 1] = words[word].matches("[0-9]+") ? Integer.parseInt(words[word]) : 0;
            }
            switch (words[0]) {
                case "nodes" -> {
                    grid.nodes = numbers[0];
                    grid.intervals = numbers[2];
                }
                case "line" -> grid.lines.add(
                        new int[] {numbers[0], numbers[1], numbers[2], numbers[numbers.length - 1]});
                case "generator" -> grid.generators.add(numbers);
                case "demand" -> grid.demands[numbers[0]][numbers[1]] = numbers[2];
                case "right" -> grid.rights.add(numbers);
                default -> grid.outage = numbers[0];
            }
        }
        return grid;
    }

    private void changeNumber() {
        int kind = random.nextInt(11);
        if (kind < 3) {
            int[] line = any(grid.lines);
            line[2] = near(line[2], 1, 200);
            line[3] = Math.max(line[2], line[3]);
        } else if (kind == 3) {
            int[] line = any(grid.lines);
            line[3] = near(line[3], line[2], 400);
        } else if (kind == 4) {
            int[] generator = any(grid.generators);
            generator[1] = near(generator[1], 0, 99);
        } else if (kind == 5) {
            int[] generator = any(grid.generators);
            generator[2] = near(generator[2], 1, 200);
        } else if (kind == 6) {
            int[] right = any(grid.rights);
            right[3] = near(right[3], 1, 100);
        } else if (kind == 7) {
            any(grid.generators)[0] = from(0, 3);
        } else if (kind == 8) {
            int line = from(0, 5);
            grid.outage = grid.isConnectedWithout(line) ? line : grid.outage;
        } else {
            int node = from(0, 3);
            grid.demands[0][node] = near(grid.demands[0][node], 0, 200);
        }
    }

    private int[] any(List<int[]> things) {
        return things.get(from(0, things.size() - 1));
    }

    /** Another number, often a near one, because a far one mostly makes the fractions short again. */
    private int near(int number, int low, int high) {
        int far = random.nextBoolean() ? 3 : 400;
        return from(Math.max(low, number - far), Math.min(high, number + far));
    }

    private interface Part {
        long of(int part);
    }

    private static Ratio told(Part part) {
        return Ratio.of(part.of(0)).over(Ratio.of(part.of(1)));
    }

    private void settle() {
        about = grid.text();
        prices = Check.loaded(about);
        if (prices.isFeasible(0) && arePriced()) {
            compare();
        }
    }

    private boolean arePriced() {
        try {
            for (int node = 0; node < 4; node++) {
                int n = node;
                price[n] = told(part -> prices.price(0, n, part));
            }
            return true;
        } catch (NoSuchElementException noPrice) {
            return false;
        }
    }

    private static boolean isLong(BigInteger number) {
        return number.bitLength() <= 63;
    }

    private static boolean isLong(Ratio ratio) {
        return isLong(ratio.top) && isLong(ratio.bottom);
    }

    private void due(String call, Ratio want, Part got) {
        Check.due(about + call + " part 0", got.of(0), want.part(0));
        Check.due(about + call + " part 1", got.of(1), want.part(1));
    }

    private void compare() {
        Ratio payments = Ratio.ZERO;
        int total = 0;
        for (int node = 0; node < 4; node++) {
            payments = payments.plus(price[node].times(grid.demands[0][node]));
            total += grid.demands[0][node];
        }
        if (total > 0) {
            double mean = ((double) payments.part(0) / (double) payments.part(1)) / (double) total;
            Check.dueDouble(about + "meanPrice", prices.meanPrice(0), mean);
        }
        Ratio surplus = payments;
        for (int generator = 0; generator < grid.generators.size(); generator++) {
            int g = generator;
            int[] numbers = grid.generators.get(g);
            Ratio output = told(part -> prices.output(0, g, part));
            Ratio margin = price[numbers[0]].minus(Ratio.of(numbers[1]));
            due("profit " + g, output.times(margin), part -> prices.profit(0, g, part));
            surplus = surplus.minus(output.times(price[numbers[0]]));
        }
        due("surplus", surplus, part -> prices.surplus(0, part));
        compareRents(surplus);
        compareRights(surplus);
    }

    private void compareRents(Ratio surplus) {
        Ratio sum = Ratio.ZERO;
        for (int line = 0; line < 6; line++) {
            int l = line;
            Ratio rise = price[grid.lines.get(l)[1]].minus(price[grid.lines.get(l)[0]]);
            Ratio rent = told(part -> prices.flow(0, l, part)).times(rise);
            due("rent " + l, rent, part -> prices.rent(0, l, part));
            sum = sum.plus(rent);
        }
        Check.due(about + "the rents are the surplus", sum.equals(surplus), true);
    }

    private Ratio target(int[] right) {
        return price[right[2]].minus(price[right[1]]).times(right[3]);
    }

    /** The sum of the positive or of the negative targets, of a holder or (-1) of all. */
    private Ratio sum(int holder, int sign) {
        Ratio sum = Ratio.ZERO;
        for (int[] right : grid.rights) {
            boolean counts = (holder < 0 || right[0] == holder) && target(right).sign() == sign;
            sum = counts ? sum.plus(target(right)) : sum;
        }
        return sum;
    }

    private void compareRights(Ratio surplus) {
        for (int right = 0; right < grid.rights.size(); right++) {
            int r = right;
            due("target " + r, target(grid.rights.get(r)), part -> prices.target(0, r, part));
        }
        Ratio fund = surplus.minus(sum(-1, -1));
        fund = fund.sign() < 0 ? Ratio.ZERO : fund;
        Ratio claims = sum(-1, 1);
        Ratio ratio = fund.compareTo(claims) < 0 ? fund.over(claims) : Ratio.ONE;
        due("fundingRatio", ratio, part -> prices.fundingRatio(0, part));
        for (int holder = 0; holder < 4; holder++) {
            comparePaid(holder, sum(holder, 1), ratio, sum(holder, -1));
        }
    }

    /** Parts that are no longs are asked for all the same: such a call must end, and throw nothing. */
    private void comparePaid(int holder, Ratio credit, Ratio ratio, Ratio debt) {
        Ratio product = credit.times(ratio);
        Ratio want = product.plus(debt);
        bits = Math.max(bits, want.top.bitLength() + want.bottom.bitLength());
        if (!isLong(want)) {
            beyondLong++;
            prices.paid(0, holder, 0);
            prices.paid(0, holder, 1);
            return;
        }
        boolean isShort = isLong(product) && isLong(product.top.multiply(debt.bottom))
                && isLong(debt.top.multiply(product.bottom)) && isLong(product.bottom.multiply(debt.bottom));
        longOnTheWay += isShort ? 0 : 1;
        due("paid " + holder, want, part -> prices.paid(0, holder, part));
    }
}
