import java.util.ArrayList;
import java.util.List;
import java.util.NoSuchElementException;

/** A question changes nothing: whatever is asked before it, of this interval or another, the answer is the same. */
public final class OrderTest {

    /** Feasible and congested, feasible with a node without a price, infeasible, and without demand. */
    private static final String[] TEXTS = {
        "nodes 3 intervals 4;line 0 1 10 emergency 14;line 0 2 30;line 1 2 30;generator 2 1 60;generator 1 50 40;"
            + "demand 0 1 50;demand 1 1 70;demand 2 1 71;right 0 0 1 9;right 3 2 0 30;outage 1;",
        "nodes 2 intervals 3;line 0 1 9;line 1 0 7 emergency 12;generator 0 3 30;generator 1 4 30;demand 0 1 20;"
            + "demand 1 1 44;demand 2 1 45;right 1 0 1 20;",
    };

    private interface Ask {
        String of(GridPrices prices);
    }

    private record Question(String name, Ask ask) {
    }

    private final List<Question> questions = new ArrayList<>();

    private OrderTest(GridPrices sample) {
        for (int interval = 0; interval < sample.count(1); interval++) {
            addDispatch(sample, interval);
            addSettlement(sample, interval);
            addWhatWouldBe(sample, interval);
        }
        questions.add(new Question("factors", p -> parts(k -> p.factor(0, 1, k)) + p.areRightsFeasible()));
        questions.add(new Question("transferLimit", p -> parts(k -> p.transferLimit(0, 1, k))));
        questions.add(new Question("outageFactor", p -> parts(k -> p.outageFactor(0, 1, k))));
    }

    public static void main(String[] args) {
        for (String text : TEXTS) {
            new OrderTest(Check.loaded(text)).run(text);
        }
        Check.end();
    }

    private static String parts(Check.Part got) {
        return got.of(0) + "/" + got.of(1);
    }

    private void add(String name, Ask ask) {
        questions.add(new Question(name, ask));
    }

    private void addDispatch(GridPrices sample, int i) {
        add("isFeasible " + i, p -> "" + p.isFeasible(i));
        add("leastCost " + i, p -> parts(k -> p.leastCost(i, k)));
        add("congestionCost " + i, p -> parts(k -> p.congestionCost(i, k)));
        add("binding " + i, p -> p.binding(i, false) + " " + p.binding(i, true));
        for (int generator = 0; generator < sample.count(3); generator++) {
            int g = generator;
            add("output " + i + " " + g, p -> parts(k -> p.output(i, g, k)));
            add("profit " + i + " " + g, p -> parts(k -> p.profit(i, g, k)));
        }
        for (int line = 0; line < sample.count(2); line++) {
            int l = line;
            add("flow " + i + " " + l, p -> parts(k -> p.flow(i, l, k)));
            add("flowAfter " + i + " " + l, p -> parts(k -> p.flowAfter(i, l, k)));
            add("loadBits " + i + " " + l, p -> "" + p.loadBits(i, l));
            add("rent " + i + " " + l, p -> parts(k -> p.rent(i, l, k)));
        }
    }

    private void addSettlement(GridPrices sample, int i) {
        add("meanPrice " + i, p -> "" + p.meanPrice(i));
        add("dearestNode " + i, p -> "" + p.dearestNode(i));
        add("surplus " + i, p -> parts(k -> p.surplus(i, k)));
        add("fundingRatio " + i, p -> parts(k -> p.fundingRatio(i, k)));
        for (int right = 0; right < sample.count(4); right++) {
            int r = right;
            add("target " + i + " " + r, p -> parts(k -> p.target(i, r, k)));
        }
        for (int holder = 0; holder < 4; holder++) {
            int h = holder;
            add("paid " + i + " " + h, p -> parts(k -> p.paid(i, h, k)));
        }
    }

    private void addWhatWouldBe(GridPrices sample, int i) {
        for (int node = 0; node < sample.count(0); node++) {
            int n = node;
            add("price " + i + " " + n, p -> parts(k -> p.price(i, n, k)));
            add("reserve " + i + " " + n, p -> "" + p.reserve(i, n));
        }
        for (int line = 0; line < sample.count(2); line++) {
            int l = line;
            add("lineValue " + i + " " + l, p -> parts(k -> p.lineValue(i, l, k)));
        }
        add("securityCost " + i, p -> parts(k -> p.securityCost(i, k)));
    }

    private static String answer(Question question, GridPrices prices) {
        try {
            return question.ask.of(prices);
        } catch (IllegalStateException | NoSuchElementException thrown) {
            return thrown.getClass().getSimpleName();
        }
    }

    private void run(String text) {
        List<String> alone = new ArrayList<>();
        for (Question question : questions) {
            alone.add(answer(question, Check.loaded(text)));
        }
        for (Question before : questions) {
            for (int later = 0; later < questions.size(); later++) {
                GridPrices prices = Check.loaded(text);
                answer(before, prices);
                Question question = questions.get(later);
                Check.dueText(question.name + " behind " + before.name, answer(question, prices), alone.get(later));
            }
        }
        Check.due("some answers are refused", alone.contains("IllegalStateException"), true);
        Check.due("some answers are missing", alone.contains("NoSuchElementException"), true);
    }
}
