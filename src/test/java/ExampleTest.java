import java.io.ByteArrayOutputStream;
import java.io.IOException;
import java.io.PrintStream;
import java.nio.charset.StandardCharsets;
import java.nio.file.Files;
import java.nio.file.Path;
import java.util.ArrayList;
import java.util.List;

/**
 * The example of README.md: it is the code between the two marks below, letter by letter, and each of its
 * prints prints what its comment says, up to a colon.
 */
public final class ExampleTest {

    private static final Path README = Path.of("README.md");
    private static final Path SOURCE = Path.of("src/test/java/ExampleTest.java");

    private ExampleTest() {
    }

    // ---- begin
    static void put(GridPrices prices, String text) {
        for (int at = 0; at < text.length(); at += 20) {
            int[] bytes = new int[5];
            for (int index = 0; index < 20; index++) {
                char sign = at + index < text.length() ? text.charAt(at + index) : ' ';
                bytes[index / 4] = bytes[index / 4] << 8 | sign;
            }
            prices.append(bytes[0], bytes[1], bytes[2], bytes[3], bytes[4]);
        }
    }

    static void example() {
        GridPrices prices = new GridPrices();
        put(prices, "nodes 3 intervals 1; line 0 1 60; line 0 2 100 emergency 120; line 2 1 90;");
        put(prices, "generator 0 10 200; generator 1 35 150; demand 0 1 120; demand 0 2 40;");
        put(prices, "right 0 0 1 50; right 1 2 1 40; right 1 1 0 5;");
        System.out.println(prices.load());                    // 3: the lines
        System.out.println(prices.factor(0, 1, 0));           // -2: line 0, node 1: -2 / 3
        System.out.println(prices.factor(0, 1, 1));           // 3
        System.out.println(prices.leastCost(0, 0));           // 2850: interval 0
        System.out.println(prices.output(0, 1, 0));           // 50: generator 1
        System.out.println(prices.binding(0, false));         // 1: the bit of line 0
        System.out.println(prices.price(0, 2, 0));            // 45: node 2: 45 / 2
        System.out.println(prices.price(0, 2, 1));            // 2
        System.out.println(prices.meanPrice(0));              // 31.875
        System.out.println(prices.surplus(0, 0));             // 2250
        System.out.println(prices.lineValue(0, 0, 0));        // 75: line 0: 75 / 2
        System.out.println(prices.lineValue(0, 0, 1));        // 2

        System.out.println(prices.setOutage(2));              // -1: there was none
        System.out.println(prices.securityCost(0, 0));        // 250
        System.out.println(prices.flowAfter(0, 0, 0));        // 60: line 0
        System.out.println(prices.areRightsFeasible());       // true: without the outage
        System.out.println(prices.fundingRatio(0, 0));        // 13: 13 / 18
        System.out.println(prices.fundingRatio(0, 1));        // 18
        System.out.println(prices.paid(0, 1, 0));             // 5375: holder 1: 5375 / 9
        System.out.println(prices.paid(0, 1, 1));             // 9
        System.out.println(prices.undo());                    // 0: no more to undo

        put(prices, "nodes 3 intervals 1; line 0 1 60;");
        try {
            prices.load();
        } catch (IllegalArgumentException refused) {
            System.out.println(prices.errorCode());           // 4: node 2 has no line
            System.out.println(prices.errorPosition());       // 40: the end
        }
        System.out.println(prices.count(2));                  // 3: the old lines stay
    }
    // ---- end

    public static void main(String[] args) throws IOException {
        List<String> example = exampleOf(Files.readAllLines(SOURCE));
        Check.dueText("the example of README.md", String.join("\n", javaOf(Files.readAllLines(README))),
                String.join("\n", example));
        List<String> want = new ArrayList<>();
        for (String line : example) {
            if (line.contains("println(")) {
                want.add(line.substring(line.indexOf("// ") + 3).split(":")[0]);
            }
        }
        Check.dueText("what the example prints", printed().toString(), want.toString());
        Check.due("prints", want.size(), 24);
        Check.end();
    }

    private static List<String> printed() {
        PrintStream before = System.out;
        ByteArrayOutputStream bytes = new ByteArrayOutputStream();
        System.setOut(new PrintStream(bytes, true, StandardCharsets.UTF_8));
        example();
        System.setOut(before);
        return bytes.toString(StandardCharsets.UTF_8).lines().toList();
    }

    private static List<String> exampleOf(List<String> lines) {
        List<String> example = new ArrayList<>();
        for (String line : lines.subList(lines.indexOf("    // ---- begin") + 1, lines.indexOf("    // ---- end"))) {
            example.add(line.startsWith("    ") ? line.substring(4) : line);
        }
        return example;
    }

    private static List<String> javaOf(List<String> lines) {
        int first = lines.indexOf("```java") + 1;
        int last = first;
        while (last < lines.size() && !lines.get(last).equals("```")) {
            last++;
        }
        return lines.subList(first, last);
    }
}
