/** Promises 2 to 6: the text buffer, loading, and the errors of a text. */
public final class TextTest {

    private static final String HEAD = "nodes 3 intervals 2;";
    private static final String LINES = "line 0 1 10;line 1 2 20;line 0 2 30;";
    private static final String GRID = HEAD + LINES;

    private TextTest() {
    }

    public static void main(String[] args) {
        appending();
        truncating();
        loading();
        failing();
        sizes();
        lines();
        generators();
        demands();
        rights();
        outages();
        tokens();
        connections();
        tooMany();
        Check.end();
    }

    private static void appending() {
        GridPrices prices = new GridPrices();
        for (int length = 20; length <= 700; length += 20) {
            Check.due("append", prices.append(0x20202020, 0x20202020, 0x20202020, 0x20202020, 0x20202020), length);
        }
        Check.dueState("append beyond 700", () -> prices.append(0, 0, 0, 0, 0));
        Check.due("the length stays", prices.truncate(700), 700);
        Check.due("truncate", prices.truncate(681), 681);
        Check.dueState("append to 701", () -> prices.append(0, 0, 0, 0, 0));
        Check.due("truncate", prices.truncate(680), 680);
        Check.due("append to 700", prices.append(0, 0, 0, 0, 0), 700);
        order();
    }

    /** The most significant byte of the first argument comes first. */
    private static void order() {
        GridPrices prices = new GridPrices();
        prices.append(('n' << 24) | ('o' << 16) | ('d' << 8) | 'e', ('s' << 24) | ('2' << 16) | ('i' << 8) | 'n',
                ('t' << 24) | ('e' << 16) | ('r' << 8) | 'v', ('a' << 24) | ('l' << 16) | ('s' << 8) | '1',
                (';' << 24) | ('l' << 16) | ('i' << 8) | 'n');
        prices.append(('e' << 24) | ('0' << 16) | (' ' << 8) | '1', (' ' << 24) | ('7' << 16) | (';' << 8) | '\n',
                0x20202020, 0x0a0a0a0a, 0x0a200a20);
        Check.due("load", prices.load(), 1);
        Check.due("limit", prices.line(0, 2), 7);
    }

    private static void truncating() {
        GridPrices prices = new GridPrices();
        Check.due("truncate", prices.truncate(0), 0);
        Check.dueIndex("truncate 1 of 0", () -> prices.truncate(1));
        Check.dueIndex("truncate -1", () -> prices.truncate(-1));
        prices.append(0, 0, 0, 0, 0);
        Check.dueIndex("truncate 21 of 20", () -> prices.truncate(21));
        Check.dueIndex("truncate the least int", () -> prices.truncate(Integer.MIN_VALUE));
        Check.due("truncate", prices.truncate(20), 20);
        Check.due("truncate", prices.truncate(3), 3);
        Check.dueIndex("truncate 4 of 3", () -> prices.truncate(4));
        Check.due("append", prices.append(0, 0, 0, 0, 0), 23);
    }

    private static void loading() {
        GridPrices prices = new GridPrices();
        Check.due("no error yet", prices.errorCode(), 0);
        Check.due("no position yet", prices.errorPosition(), GridPrices.NONE);
        Check.put(prices, GRID + "generator 0 5 50;demand 1 2 6;right 3 0 2 7;outage 1;");
        Check.due("load", prices.load(), 3);
        Check.due("code", prices.errorCode(), 0);
        Check.due("position", prices.errorPosition(), GridPrices.NONE);
        Check.dueIndex("the buffer is empty", () -> prices.truncate(1));
        prices.setLimit(0, 11);
        Check.put(prices, "nodes 2 intervals 1;line 0 1 5;");
        Check.due("load", prices.load(), 1);
        Check.dueState("nothing can be undone", prices::undo);
        Check.due("outage replaced", prices.outage(), GridPrices.NONE);
        Check.due("generators replaced", prices.count(3), 0);
        Check.due("rights replaced", prices.count(4), 0);
        Check.due("limit replaced", prices.line(0, 2), 5);
        Check.due("demand replaced", prices.demand(0, 1), 0);
        answersFollow();
    }

    /** Nothing that was found before a load is answered after it. */
    private static void answersFollow() {
        String grid = "nodes 3 intervals 2;line 0 1 10;line 1 2 20;line 0 2 30;";
        GridPrices prices = Check.loaded(grid + "generator 0 5 50;demand 1 2 6;outage 1;");
        Check.due("cost", prices.leastCost(1, 0), 30);
        Check.due("price", prices.price(1, 2, 0), 5);
        Check.put(prices, "nodes 3 intervals 2;line 0 1 10;line 1 2 20;generator 0 7 50;demand 1 2 4;");
        Check.due("load", prices.load(), 2);
        Check.due("cost", prices.leastCost(1, 0), 28);
        Check.due("price", prices.price(1, 2, 0), 7);
        Check.due("factor", prices.factor(0, 2, 0), -1);
        Check.dueState("no outage", () -> prices.outageFactor(0, 2, 0));
        Check.put(prices, "nodes 5");
        Check.dueArgument("load", prices::load);
        Check.due("cost stays", prices.leastCost(1, 0), 28);
    }

    private static void failing() {
        GridPrices prices = Check.loaded(GRID + "generator 0 5 50;demand 1 2 6;right 3 0 2 7;outage 1;");
        prices.setLimit(0, 11);
        prices.setCost(0, 6);
        Check.put(prices, "nodes 2 intervals 1;line 0 1 500;");
        Check.dueArgument("load", prices::load);
        Check.due("code", prices.errorCode(), 2);
        Check.due("position", prices.errorPosition(), 29);
        Check.dueIndex("the buffer is empty", () -> prices.truncate(1));
        Check.due("nodes stay", prices.count(0), 3);
        Check.due("limit stays", prices.line(0, 2), 11);
        Check.due("demand stays", prices.demand(1, 2), 6);
        Check.due("outage stays", prices.outage(), 1);
        Check.due("changes stay", prices.undo(), 1);
        Check.due("changes stay", prices.undo(), 0);
        Check.due("limit", prices.line(0, 2), 10);
        Check.dueArgument("load of nothing", prices::load);
        Check.due("code", prices.errorCode(), 1);
        Check.due("position", prices.errorPosition(), 0);
        Check.put(prices, GRID);
        Check.due("load", prices.load(), 3);
        Check.due("no code", prices.errorCode(), 0);
        Check.due("no position", prices.errorPosition(), GridPrices.NONE);
    }

    /** A text that is loaded without an error. */
    private static void good(String text) {
        GridPrices prices = new GridPrices();
        Check.put(prices, text);
        try {
            prices.load();
        } catch (IllegalArgumentException thrown) {
            Check.tell(text + " has error " + prices.errorCode() + " at " + prices.errorPosition());
        }
        Check.due(text + ": code", prices.errorCode(), 0);
        Check.due(text + ": position", prices.errorPosition(), -1);
    }

    /** A text with an error: where the sign ^ stands (it is taken out), or at the end. */
    private static void bad(int code, String marked) {
        int mark = marked.indexOf('^');
        String text = marked.replace("^", "");
        GridPrices prices = new GridPrices();
        Check.put(prices, text);
        Check.dueArgument(marked, prices::load);
        Check.due(marked + ": code", prices.errorCode(), code);
        Check.due(marked + ": position", prices.errorPosition(), mark < 0 ? text.length() : mark);
        Check.due(marked + ": nodes", prices.count(0), 2);
    }

    private static void sizes() {
        bad(1, "");
        bad(1, "  \n ");
        bad(1, "^node 3 intervals 2;");
        bad(1, "^nodess 3 intervals 2;");
        bad(1, "^modes 3 intervals 2;");
        bad(1, "^noden 3 intervals 2;");
        bad(1, "^a 3");
        bad(1, "^z 3");
        bad(1, "nodes");
        bad(1, "nodes ^; intervals 2;");
        bad(2, "nodes ^1 intervals 2;");
        bad(2, "nodes ^5 intervals 2;");
        bad(2, "nodes ^0 ?");
        bad(1, "nodes 2 ^3;");
        bad(2, "nodes 2 intervals ^0;");
        bad(2, "nodes 2 intervals ^5;");
        bad(1, "nodes 2 intervals 4 ^line 0 1 2;");
        bad(1, "nodes 2 intervals 4");
        good("nodes 4 intervals 4;line 0 1 1;line 0 2 1;line 3 0 1;");
        good("nodes 0002 intervals 0001;line 0 1 1;");
    }

    private static void lines() {
        bad(1, HEAD + "line ^;");
        bad(2, HEAD + "line ^3 1 10;");
        bad(2, HEAD + "line 0 ^3 10;");
        bad(2, HEAD + "line 2 ^2 10;");
        bad(2, HEAD + "line 0 1 ^0;");
        bad(2, HEAD + "line 0 1 ^201;");
        bad(1, HEAD + "line 0 1 ^;");
        bad(1, HEAD + "line 0 1 10 ^line");
        bad(1, HEAD + "line 0 1 10 ^10;");
        bad(1, HEAD + "line 0 1 10 emergency ^;");
        bad(2, HEAD + "line 0 1 10 emergency ^9;");
        bad(2, HEAD + "line 0 1 10 emergency ^401;");
        bad(1, HEAD + "line 0 1 10 emergency 10 ^emergency 10;");
        bad(1, HEAD + "line 0 1 10 emergency 10");
        good("nodes 2 intervals 1;line 1 0 200 emergency 400;line 0 1 1 emergency 1;");
    }

    private static void generators() {
        bad(2, GRID + "generator ^3 0 1;");
        bad(2, GRID + "generator 2 ^100 1;");
        bad(2, GRID + "generator 2 99 ^0;");
        bad(2, GRID + "generator 2 99 ^201;");
        bad(1, GRID + "generator 2 99 ^;");
        bad(1, GRID + "generator 2 99 1 ^2;");
        bad(1, GRID + "generator 2 99 1; ^line 0 1 1;");
        good(GRID + "generator 2 99 200;generator 0 0 1;");
    }

    private static void demands() {
        bad(2, GRID + "demand ^2 0 1;");
        bad(2, GRID + "demand 1 ^3 1;");
        bad(2, GRID + "demand 1 2 ^201;");
        bad(1, GRID + "demand 1 2^;");
        bad(1, GRID + "demand 1 2 0; ^generator 0 1 1;");
        bad(1, GRID + "demand 1 2 0; ^line 0 1 1;");
        GridPrices prices = Check.loaded(GRID + "demand 1 2 200;demand 0 2 3;demand 1 2 0;demand 0 2 4;demand 1 0 5;");
        Check.due("the last one counts", prices.demand(1, 2), 0);
        Check.due("the last one counts", prices.demand(0, 2), 4);
        Check.due("demand", prices.demand(1, 0), 5);
        Check.due("no demand", prices.demand(0, 0), 0);
    }

    private static void rights() {
        bad(2, GRID + "right ^4 0 1 1;");
        bad(2, GRID + "right 3 ^3 1 1;");
        bad(2, GRID + "right 3 0 ^3 1;");
        bad(2, GRID + "right 3 1 ^1 1;");
        bad(2, GRID + "right 3 0 1 ^0;");
        bad(2, GRID + "right 3 0 1 ^101;");
        bad(1, GRID + "right 3 0 1 ^;");
        bad(1, GRID + "right 3 0 1 1; ^demand 0 0 1;");
        bad(1, GRID + "right 3 0 1 1; ^generator 0 0 1;");
        good(GRID + "right 0 2 1 100;right 3 0 1 1;");
    }

    private static void outages() {
        bad(2, GRID + "outage ^3;");
        bad(1, GRID + "outage ^;");
        bad(1, GRID + "outage 2");
        bad(1, GRID + "outage 2; ^outage 2;");
        bad(1, GRID + "outage 2; ^;");
        bad(1, GRID + "outage 2; ^right 0 0 1 1;");
        String radial = "nodes 3 intervals 1;line 0 1 1;line 1 2 1;line 2 1 1;";
        bad(5, radial + "outage ^0;");
        bad(5, radial + "outage ^0 ?");
        good(radial + "outage 1;");
        good(radial + "outage 2;\n\n ");
        bad(5, "nodes 2 intervals 1;line 0 1 1;outage ^0000;");
    }

    private static void tokens() {
        good("\n nodes3intervals2;line0 1 10;line\n1\n2\n20emergency20;line2 0 0001;generator0 5 5;outage1;");
        bad(1, "^Nodes 2 intervals 1;");
        bad(1, "^\tnodes 2 intervals 1;");
        bad(1, "^\rnodes 2 intervals 1;");
        bad(1, "^\u0000");
        bad(1, "nodes ^\u00e9");
        bad(1, "nodes 2 intervals 1^:line 0 1 1;");
        bad(1, "nodes ^00002 intervals 1;");
        bad(1, "nodes ^-2 intervals 1;");
        bad(1, "nodes 2 ^intervalsintervals 1;");
        bad(1, HEAD + "line 0 ^12345 1;");
        bad(1, HEAD + "line 0 ^99999999999999999999 1;");
        bad(2, HEAD + "line 0 ^9999 1;");
        bad(1, HEAD + "line 0 1 1 ^1;");
        bad(1, GRID + "^`");
        bad(1, GRID + "^{");
        bad(1, GRID + "^/");
    }

    private static void connections() {
        bad(4, "nodes 2 intervals 1;");
        bad(4, "nodes 2 intervals 1;  \n");
        bad(4, "nodes 2 intervals 1; ^generator 0 0");
        bad(4, "nodes 3 intervals 1;line 0 1 1;line 1 0 2;");
        bad(4, "nodes 3 intervals 1;line 0 1 1;line 1 0 2; ^demand 9 9 9;");
        bad(4, "nodes 4 intervals 1;line 0 1 1;line 2 3 2; ^right 0 0 0 0;");
        bad(4, "nodes 4 intervals 1;line 0 1 1;line 2 3 2;\n^outage 9;");
        bad(1, "nodes 4 intervals 1;line 0 1 1;line 2 3 2; ^outages 9;");
        bad(1, "nodes 4 intervals 1;line 0 1 1;line 2 3 2; ^?");
        bad(1, "nodes 4 intervals 1;line 0 1 1;line 2 3 2; ^;");
        bad(1, "nodes 4 intervals 1;line 0 1 1;line 2 3 2; ^77777");
        bad(1, "nodes 4 intervals 1;line 0 1 1;line 2 3 2; ^nodes");
        bad(1, "nodes 4 intervals 1;line 0 1 1;line 2 3 2; ^emergency");
        bad(2, "nodes 4 intervals 1;line 0 1 1;line 2 ^4 2; generator");
    }

    private static void tooMany() {
        String six = HEAD + "line 0 1 1;".repeat(6);
        bad(3, six + " ^line 0 2 1;");
        bad(3, six + " ^line");
        bad(4, six + " ^generator 0 0 1;");
        String five = GRID + "generator 0 0 1;".repeat(5);
        good(five);
        bad(3, five + "\n^generator");
        String rights = GRID + "right 0 0 1 1;".repeat(6);
        good(rights);
        bad(3, rights + "\n^right?");
        bad(1, rights + "\n^rights?");
        good(GRID + "demand 0 0 1;".repeat(49));
    }
}
