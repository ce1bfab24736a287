/** Promises 1 to 6 at their edges: the empty, the full and the shortened buffer, and what a load leaves behind. */
public final class BufferBoundaryTest {

    private static final int BLANKS = 0x20202020;
    private static final String GRID = "nodes 2 intervals 1;line 0 1 5;";
    private static final String OTHER = "nodes 3 intervals 2;line 0 1 60 emergency 70;line 1 2 8;line 2 0 9;"
            + "generator 1 4 30;demand 1 2 6;right 3 0 2 7;outage 1;";

    private BufferBoundaryTest() {
    }

    public static void main(String[] args) {
        emptyAtFirst();
        lengths();
        fullBuffer();
        beyondFull();
        eachByte();
        allByteValues();
        truncations();
        truncationCutsBytesOff();
        emptyText();
        emptyAfterwards();
        errorOfTheLatestLoad();
        failedLoadKeepsTheRest();
        loadReplacesEverything();
        lastCall();
        Check.end();
    }

    private static int blanks(GridPrices prices) {
        return prices.append(BLANKS, BLANKS, BLANKS, BLANKS, BLANKS);
    }

    private static void fails(String about, GridPrices prices, int code, int position) {
        Check.dueArgument(about, prices::load);
        Check.due(about + ": code", prices.errorCode(), code);
        Check.due(about + ": position", prices.errorPosition(), position);
    }

    /** Promise 1: "the text buffer is empty". */
    private static void emptyAtFirst() {
        GridPrices prices = new GridPrices();
        Check.dueIndex("a new buffer has no byte", () -> prices.truncate(1));
        Check.due("truncate to nothing", prices.truncate(0), 0);
        Check.due("the first append", blanks(prices), 20);
    }

    /** Promise 2: "Returns the new length of the buffer", at every length that the buffer can have. */
    private static void lengths() {
        for (int length = 0; length <= 700; length++) {
            GridPrices prices = new GridPrices();
            int appended = 0;
            while (appended < length) {
                appended = blanks(prices);
            }
            prices.truncate(length);
            if (length <= 680) {
                Check.due("append at " + length, blanks(prices), length + 20);
            } else {
                Check.dueState("append at " + length, () -> blanks(prices));
                Check.due("the length stays", prices.truncate(length), length);
                int more = length + 1;
                Check.dueIndex("the length stays", () -> prices.truncate(more));
            }
        }
    }

    /** "a text buffer of at most 700 bytes": all 700 of them count. */
    private static void fullBuffer() {
        String head = GRID + "demand 0 1 3;";
        String filled = head + " ".repeat(700 - head.length());
        GridPrices prices = Check.loaded(filled);
        Check.due("demand", prices.demand(0, 1), 3);
        GridPrices last = new GridPrices();
        Check.put(last, filled.substring(0, 699) + "?");
        fails("a wrong byte in the last place", last, 1, 699);
        GridPrices end = new GridPrices();
        Check.put(end, "nodes 2 intervals 1" + " ".repeat(681));
        fails("the end of a full buffer", end, 1, 700);
        GridPrices first = Check.loaded("\n".repeat(700 - GRID.length()) + GRID);
        Check.due("the last byte ends the last line", first.line(0, 2), 5);
    }

    /** Promise 2: "IllegalStateException if the length would exceed 700", and then nothing has changed. */
    private static void beyondFull() {
        String filled = " ".repeat(700 - GRID.length()) + GRID;
        GridPrices prices = Check.loaded(OTHER);
        prices.setDemand(0, 0, 8);
        Check.put(prices, filled);
        for (int more = 0; more < 3; more++) {
            Check.dueState("one call beyond a full buffer", () -> prices.append(-1, -1, -1, -1, -1));
        }
        Check.due("no error is told", prices.errorCode(), 0);
        Check.due("the change can be undone", prices.undo(), 0);
        Check.due("the grid is as it was", prices.count(2), 3);
        Check.due("the text is as it was", prices.load(), 1);
        Check.due("the text is as it was", prices.line(0, 2), 5);
        Check.due("there is room again", blanks(prices), 20);
    }

    /** "the four bytes of each argument in order, the most significant byte first". */
    private static void eachByte() {
        for (int place = 0; place < 20; place++) {
            for (int sign : new int[] {'?', 0x80, 0xff, 0}) {
                int[] words = {BLANKS, BLANKS, BLANKS, BLANKS, BLANKS};
                int shift = 24 - place % 4 * 8;
                words[place / 4] = words[place / 4] & ~(0xff << shift) | sign << shift;
                GridPrices prices = new GridPrices();
                prices.append(words[0], words[1], words[2], words[3], words[4]);
                fails("byte " + sign + " at " + place, prices, 1, place);
            }
        }
    }

    /** Bytes 10 and 32 are blanks; of the others only a to z, 0 to 9 and ; start a token. */
    private static void allByteValues() {
        for (int sign = 0; sign < 256; sign++) {
            String text = "nodes" + (char) sign + "2 intervals 1;line 0 1 5;";
            GridPrices prices = new GridPrices();
            Check.put(prices, text);
            if (sign == 10 || sign == 32 || sign == '0') {
                Check.due("byte " + sign + " before a number", prices.load(), 1);
            } else if (sign >= 'a' && sign <= 'z') {
                fails("a longer word", prices, 1, 0);
            } else {
                fails("byte " + sign, prices, sign >= '0' && sign <= '9' ? 2 : 1, 5);
            }
            GridPrices behind = new GridPrices();
            Check.put(behind, "nodes 2 intervals 1" + (char) sign + "line 0 1 5;");
            if (sign == ';') {
                Check.due("the symbol ;", behind.load(), 1);
            } else {
                boolean isBlank = sign == 10 || sign == 32;
                boolean isDigit = sign >= '0' && sign <= '9';
                fails("byte " + sign + " for ;", behind, isDigit ? 2 : 1, isDigit ? 18 : isBlank ? 20 : 19);
            }
        }
    }

    /** Promise 3: "if length is negative or greater than the current length". */
    private static void truncations() {
        for (int length = 0; length <= 700; length += 20) {
            GridPrices prices = new GridPrices();
            for (int at = 0; at < length; at += 20) {
                blanks(prices);
            }
            for (int wrong : new int[] {Integer.MIN_VALUE, -700, -1, length + 1, 701, 720, Integer.MAX_VALUE}) {
                Check.dueIndex("truncate " + length + " to " + wrong, () -> prices.truncate(wrong));
            }
            Check.due("to the current length", prices.truncate(length), length);
            if (length > 0) {
                Check.due("by one", prices.truncate(length - 1), length - 1);
                int before = length;
                Check.dueIndex("not back", () -> prices.truncate(before));
                Check.due("to nothing", prices.truncate(0), 0);
                Check.dueIndex("nothing is left", () -> prices.truncate(1));
            }
        }
    }

    /** Promise 3: what is cut off is gone, and what is appended then stands in its place. */
    private static void truncationCutsBytesOff() {
        GridPrices prices = new GridPrices();
        Check.put(prices, "nodes 2 intervals 1;line 0 1 200;????????");
        Check.due("truncate", prices.truncate(31), 31); // behind the first digits of the limit
        prices.append(0x3b0a0a0a, BLANKS, BLANKS, BLANKS, BLANKS);
        Check.due("load", prices.load(), 1);
        Check.due("a shorter number", prices.line(0, 2), 20);
        GridPrices cut = new GridPrices();
        Check.put(cut, GRID + "?????");
        cut.truncate(GRID.length() - 1);
        fails("the end is where the text was cut", cut, 1, GRID.length() - 1);
    }

    /** Code 1: "or the end": the empty text has it at 0, blanks have it behind them. */
    private static void emptyText() {
        fails("no text", new GridPrices(), 1, 0);
        for (int length = 1; length <= 700; length += length < 25 ? 1 : 75) {
            GridPrices prices = new GridPrices();
            Check.put(prices, " \n".repeat(350).substring(0, length));
            fails("nothing but blanks", prices, 1, length);
        }
    }

    /** Promise 4: "The buffer is empty afterwards in every case." */
    private static void emptyAfterwards() {
        GridPrices prices = new GridPrices();
        Check.put(prices, GRID);
        prices.load();
        Check.dueIndex("empty after a good text", () -> prices.truncate(1));
        fails("the text is not loaded again", prices, 1, 0);
        Check.put(prices, "nodes 2 intervals 1;line 0 1 500;");
        fails("an error", prices, 2, 29);
        Check.dueIndex("empty after an error", () -> prices.truncate(1));
        fails("nothing is left of it", prices, 1, 0);
        Check.due("the whole room is there", blanks(prices), 20);
    }

    /** Promises 5 and 6: "0 if there was no error or no call yet", "NONE if there was no error or no call yet". */
    private static void errorOfTheLatestLoad() {
        GridPrices prices = new GridPrices();
        Check.due("no call yet", prices.errorCode(), 0);
        Check.due("no call yet", prices.errorPosition(), GridPrices.NONE);
        String[] texts = {"nodes ", "nodes 9", GRID + "line 0 1 5;".repeat(6), "nodes 3 intervals 1;line 0 1 5;",
            GRID + "outage 0;"};
        int[] positions = {6, 6, 86, 31, 38};
        for (int code = 1; code <= 5; code++) {
            Check.put(prices, texts[code - 1]);
            fails(texts[code - 1], prices, code, positions[code - 1]);
            blanks(prices);
            prices.truncate(0);
            Check.dueArgument("another refused call", () -> prices.count(-1));
            Check.due("it stays until the next load", prices.errorCode(), code);
            Check.due("it stays until the next load", prices.errorPosition(), positions[code - 1]);
            Check.put(prices, GRID);
            Check.due("load", prices.load(), 1);
            Check.due("no error", prices.errorCode(), 0);
            Check.due("no error", prices.errorPosition(), GridPrices.NONE);
        }
    }

    /** Promise 4: "everything else stays then", even of a text whose error is its last token. */
    private static void failedLoadKeepsTheRest() {
        GridPrices prices = Check.loaded(OTHER);
        prices.setLimit(0, 61);
        prices.setDemand(0, 0, 1);
        long cost = prices.leastCost(1, 0);
        String wrong = "nodes 4 intervals 4;line 0 1 1;line 1 2 1;line 2 3 1;line 3 0 1;generator 0 1 1;"
                + "generator 3 2 2;demand 3 3 3;demand 1 2 9;right 0 0 1 1;right 1 1 0 1;outage 3;?";
        Check.put(prices, wrong);
        fails("an error at the very end", prices, 1, wrong.length() - 1);
        int[] counts = {3, 2, 3, 1, 1};
        for (int what = 0; what < 5; what++) {
            Check.due("count " + what, prices.count(what), counts[what]);
        }
        Check.due("limit", prices.line(0, 2), 61);
        Check.due("emergency limit", prices.line(0, 3), 70);
        Check.due("generator", prices.generator(0, 2), 30);
        Check.due("demand", prices.demand(1, 2), 6);
        Check.due("outage", prices.outage(), 1);
        Check.due("cost", prices.leastCost(1, 0), cost);
        Check.due("target", prices.target(1, 0, 0), 0);
        Check.due("the changes", prices.undo(), 1);
        Check.due("the changes", prices.undo(), 0);
        Check.due("limit before", prices.line(0, 2), 60);
    }

    /** Promise 4: "everything is replaced, and nothing can be undone", to the least grid there is. */
    private static void loadReplacesEverything() {
        GridPrices prices = Check.loaded(OTHER);
        for (int change = 0; change < 12; change++) {
            prices.setDemand(0, 1, change);
        }
        Check.put(prices, "nodes 2 intervals 1;line 1 0 1;");
        Check.due("load", prices.load(), 1);
        Check.dueState("nothing can be undone", prices::undo);
        int[] counts = {2, 1, 1, 0, 0};
        for (int what = 0; what < 5; what++) {
            Check.due("count " + what, prices.count(what), counts[what]);
        }
        int[] line = {1, 0, 1, 1};
        for (int what = 0; what < 4; what++) {
            Check.due("line " + what, prices.line(0, what), line[what]);
        }
        Check.dueIndex("no second line", () -> prices.line(1, 0));
        Check.dueIndex("no generator", () -> prices.generator(0, 0));
        Check.dueIndex("no second interval", () -> prices.demand(1, 0));
        Check.dueIndex("no third node", () -> prices.demand(0, 2));
        Check.due("demand", prices.demand(0, 0), 0);
        Check.due("demand", prices.demand(0, 1), 0);
        Check.due("outage", prices.outage(), GridPrices.NONE);
        Check.dueIndex("no right", () -> prices.target(0, 0, 0));
    }

    /** "An object is used for at most 512 calls": the 512th is answered like any other. */
    private static void lastCall() {
        GridPrices prices = new GridPrices();
        Check.put(prices, "nodes 2 intervals 1;line 0 1 200;generator 0 3 200;"); // 3 calls and a truncate
        prices.load();
        for (int call = 6; call <= 511; call++) {
            Check.due("call " + call, prices.setDemand(0, 1, call % 201), call == 6 ? 0 : (call - 1) % 201);
        }
        Check.due("call 512", prices.leastCost(0, 0), 3 * (511 % 201));
    }
}
