import java.util.ArrayList;
import java.util.List;
import java.util.regex.Matcher;
import java.util.regex.Pattern;

/**
 * The error of a text, found by other means than the program's: the first token that cannot stand is found
 * by a regular expression over the kinds of the tokens, the other errors by looking at each token alone.
 */
final class TextOracle {

    private static final Pattern TOKEN = Pattern.compile("[ \\n]*([a-z]+|[0-9]+|(?s:.))");
    private static final Pattern GRAMMAR =
            Pattern.compile("nNiN;(lNNN(eN)?;)*(gNNN;)*(dNNN;)*(rNNNN;)*(oN;)?");
    private static final String[] WORDS =
            {"nodes", "intervals", "line", "generator", "demand", "right", "outage", "emergency"};

    final String text;
    /** The tokens and where they begin. */
    final List<String> tokens = new ArrayList<>();
    final List<Integer> places = new ArrayList<>();
    /** The code of the error, 0 if there is none. */
    int code = 0;
    private int position = Integer.MAX_VALUE;
    private final StringBuilder kinds = new StringBuilder();
    private int nodes = 4;
    private int intervals = 4;
    private int statement;
    private final List<int[]> lines = new ArrayList<>();
    private int generators;
    private int rights;
    private boolean isBehindLines;

    TextOracle(String text) {
        this.text = text;
        split();
        find();
    }

    /** Loads the text and compares what is told of it. */
    void compare(GridPrices prices) {
        String about = text.replace("\n", "\\n");
        Check.put(prices, text);
        if (code == 0) {
            Check.due(about, prices.load(), lines.size());
            Check.due(about + ": position", prices.errorPosition(), -1);
            Check.due(about + ": generators", prices.count(3), generators);
            Check.due(about + ": rights", prices.count(4), rights);
        } else {
            Check.dueArgument(about, prices::load);
            Check.due(about + ": position", prices.errorPosition(), position);
        }
        Check.due(about + ": code", prices.errorCode(), code);
    }

    private void split() {
        Matcher matcher = TOKEN.matcher(text);
        int from = 0;
        while (from < text.length() && matcher.find(from) && matcher.start() == from) {
            String token = matcher.group(1);
            if (token.equals(" ") || token.equals("\n")) {
                break; // only blanks were left
            }
            tokens.add(token);
            places.add(matcher.start(1));
            kinds.append(kindOf(token));
            from = matcher.end();
        }
    }

    private static char kindOf(String token) {
        for (String word : WORDS) {
            if (word.equals(token)) {
                return word.charAt(0);
            }
        }
        if (token.matches("[0-9]{1,4}")) {
            return 'N';
        }
        return token.equals(";") ? ';' : '?';
    }

    private int placeOf(int token) {
        return token < tokens.size() ? places.get(token) : text.length();
    }

    private void tell(int token, int found) {
        int place = placeOf(token);
        if (place < position || place == position && found < code) {
            position = place;
            code = found;
        }
    }

    private void find() {
        int standing = 0;
        while (standing < tokens.size() && canStand(standing + 1)) {
            standing++;
        }
        if (standing < tokens.size()) {
            tell(standing, 1);
        } else if (!GRAMMAR.matcher(kinds).matches()) {
            tell(standing, 1);
        }
        for (int token = 0; token < standing && code <= 1; token++) {
            look(token);
        }
        if (code == 0 && !isBehindLines && !isConnectedWithout(-1)) {
            tell(standing, 4);
        }
    }

    private boolean canStand(int count) {
        Matcher matcher = GRAMMAR.matcher(kinds.substring(0, count));
        return matcher.matches() || matcher.hitEnd();
    }

    private int value(int token) {
        return token < kinds.length() && kinds.charAt(token) == 'N' ? Integer.parseInt(tokens.get(token)) : -1;
    }

    private void inRange(int token, int low, int high) {
        if (value(token) < low || value(token) > high) {
            tell(token, 2);
        }
    }

    private void look(int token) {
        char kind = kinds.charAt(token);
        if (kind == ';' || kind == 'e') {
            return;
        }
        if (kind != 'N') {
            statement = token;
            lookAtWord(token, kind);
        } else {
            lookAtNumber(token, kinds.charAt(statement), token - statement);
        }
    }

    private void lookAtWord(int token, char kind) {
        if (kind == 'l' && lines.size() >= 6) {
            tell(token, 3);
        }
        if ("gdro".indexOf(kind) >= 0 && !isBehindLines) {
            isBehindLines = true;
            if (!isConnectedWithout(-1)) {
                tell(token, 4);
            }
        }
        generators += kind == 'g' ? 1 : 0;
        rights += kind == 'r' ? 1 : 0;
        if (kind == 'g' && generators > 5 || kind == 'r' && rights > 6) {
            tell(token, 3);
        }
    }

    private void lookAtNumber(int token, char kind, int index) {
        int[][] ranges;
        switch (kind) {
            case 'n':
                inRange(token, 2, 4);
                nodes = value(token);
                return;
            case 'i':
                inRange(token, 1, 4);
                intervals = value(token);
                return;
            case 'l':
                ranges = new int[][] {{0, nodes - 1}, {0, nodes - 1}, {1, 200}, {}, {value(statement + 3), 400}};
                break;
            case 'g':
                ranges = new int[][] {{0, nodes - 1}, {0, 99}, {1, 200}};
                break;
            case 'd':
                ranges = new int[][] {{0, intervals - 1}, {0, nodes - 1}, {0, 200}};
                break;
            case 'r':
                ranges = new int[][] {{0, 3}, {0, nodes - 1}, {0, nodes - 1}, {1, 100}};
                break;
            default:
                ranges = new int[][] {{0, lines.size() - 1}};
                break;
        }
        inRange(token, ranges[index - 1][0], ranges[index - 1][1]);
        lookAtPairs(token, kind, index);
    }

    private void lookAtPairs(int token, char kind, int index) {
        boolean isSecond = kind == 'l' && index == 2 || kind == 'r' && index == 3;
        if (isSecond && value(token) == value(token - 1)) {
            tell(token, 2);
        }
        if (kind == 'l' && index == 2) {
            lines.add(new int[] {value(token - 1), value(token)});
        }
        if (kind == 'o' && !isConnectedWithout(value(token))) {
            tell(token, 5);
        }
    }

    private boolean isConnectedWithout(int without) {
        int reached = 1;
        for (int round = 0; round < 4; round++) {
            for (int line = 0; line < lines.size(); line++) {
                int both = 1 << lines.get(line)[0] | 1 << lines.get(line)[1];
                reached |= line != without && (reached & both) != 0 ? both : 0;
            }
        }
        return reached == (1 << nodes) - 1;
    }
}
