import java.util.Random;

/** Texts with random damage, with the error compared with the one that TextOracle finds. */
public final class TextOracleTest {

    private TextOracleTest() {
    }

    public static void main(String[] args) {
        int runs = args.length > 0 ? Integer.parseInt(args[0]) : 60000;
        Random random = new Random(7);
        int[] seen = new int[6];
        GridPrices prices = new GridPrices();
        for (int run = 0; run < runs; run++) {
            String text = damaged(random, randomText(random));
            TextOracle oracle = new TextOracle(text);
            prices = run % 12 == 0 ? new GridPrices() : prices; // 512 calls are an object's last
            oracle.compare(prices);
            seen[oracle.code]++;
        }
        for (int code = 0; code <= 5; code++) {
            Check.due("code " + code + " is met", seen[code] > runs / 500, true);
        }
        Check.end();
    }

    // ---- making texts

    private static String randomText(Random random) {
        StringBuilder text = new StringBuilder();
        int nodes = 2 + random.nextInt(3);
        text.append("nodes ").append(nodes).append(" intervals ").append(1 + random.nextInt(4)).append(";");
        int lines = random.nextInt(30) == 0 ? 7 : random.nextInt(7);
        for (int line = 0; line < lines; line++) {
            int from = random.nextInt(nodes);
            int to = random.nextInt(20) == 0 ? from : (from + 1 + random.nextInt(nodes - 1)) % nodes;
            text.append("line ").append(from).append(" ").append(to).append(" ").append(1 + random.nextInt(201));
            text.append(random.nextInt(3) == 0 ? " emergency " + (160 + random.nextInt(242)) : "").append(" ; ");
        }
        for (int left = random.nextInt(40) == 0 ? 6 : random.nextInt(4); left > 0; left--) {
            text.append("generator ").append(random.nextInt(nodes)).append(" ").append(random.nextInt(100));
            text.append(" ").append(1 + random.nextInt(200)).append(";\n");
        }
        for (int left = random.nextInt(4); left > 0; left--) {
            text.append("demand 0 ").append(random.nextInt(nodes)).append(" ").append(random.nextInt(202));
            text.append(";");
        }
        for (int left = random.nextInt(40) == 0 ? 7 : random.nextInt(4); left > 0; left--) {
            int from = random.nextInt(nodes);
            text.append("right ").append(random.nextInt(4)).append(" ").append(from).append(" ");
            text.append((from + 1) % nodes).append(" ").append(1 + random.nextInt(100)).append(";");
        }
        if (random.nextInt(2) == 0) {
            text.append("outage ").append(random.nextInt(Math.max(1, lines))).append(";");
        }
        return text.toString();
    }

    private static String damaged(Random random, String text) {
        if (random.nextInt(3) == 0) {
            return text;
        }
        StringBuilder damaged = new StringBuilder(text);
        String[] pieces = {"line ", "generator ", "demand ", "right ", "outage ", "emergency ", ";", " 5 ", " 77777 ",
            " 4 ", " 0 ", "?", "\n", " ", "x", " 201 ", " 101 "};
        int at = random.nextInt(damaged.length() + 1);
        switch (random.nextInt(4)) {
            case 0:
                damaged.insert(at, pieces[random.nextInt(pieces.length)]);
                break;
            case 1:
                damaged.delete(at, Math.min(damaged.length(), at + 1 + random.nextInt(12)));
                break;
            case 2:
                damaged.setLength(at);
                break;
            default:
                damaged.setCharAt(Math.min(at, damaged.length() - 1), (char) random.nextInt(128));
                break;
        }
        damaged.setLength(Math.min(700, damaged.length()));
        return damaged.toString();
    }
}
