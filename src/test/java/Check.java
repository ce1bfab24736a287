import java.nio.charset.StandardCharsets;

/** What the tests share: comparing answers, expecting exceptions, loading a text. */
final class Check {

    /** A call that may throw. */
    interface Call {
        Object run();
    }

    /** A call that answers a part of a fraction. */
    interface Part {
        long of(int part);
    }

    private static int wrong = 0;
    private static int made = 0;

    private Check() {
    }

    static void due(String call, long got, long want) {
        made++;
        if (got != want) {
            tell(call + " answered " + got + ", due is " + want);
        }
    }

    static void due(String call, boolean got, boolean want) {
        due(call, got ? 1 : 0, want ? 1 : 0);
    }

    static void dueDouble(String call, double got, double want) {
        made++;
        if (Double.compare(got, want) != 0) {
            tell(call + " answered " + got + ", due is " + want);
        }
    }

    static void dueText(String call, String got, String want) {
        made++;
        if (!got.equals(want)) {
            tell(call + " answered " + got + ", due is " + want);
        }
    }

    /** A fraction is told by its numerator (part 0) and its denominator (part 1). */
    static void dueFraction(String call, Part got, long top, long bottom) {
        due(call + " part 0", got.of(0), top);
        due(call + " part 1", got.of(1), bottom);
    }

    /** Expects exactly the named exception, thrown by a statement and not by the machine. */
    static void dueThrow(String call, Class<?> want, Call run) {
        made++;
        String got;
        try {
            got = String.valueOf(run.run());
        } catch (RuntimeException thrown) {
            if (thrown.getClass() == want) {
                return;
            }
            got = "throws " + thrown;
        }
        tell(call + " answered " + got + ", due is " + want.getSimpleName());
    }

    /** Expects an answer, whichever. */
    static void dueAnswer(String call, Call run) {
        made++;
        try {
            run.run();
        } catch (RuntimeException thrown) {
            tell(call + " throws " + thrown);
        }
    }

    static void dueIndex(String call, Call run) {
        dueThrow(call, IndexOutOfBoundsException.class, run);
    }

    static void dueArgument(String call, Call run) {
        dueThrow(call, IllegalArgumentException.class, run);
    }

    static void dueState(String call, Call run) {
        dueThrow(call, IllegalStateException.class, run);
    }

    static void dueMissing(String call, Call run) {
        dueThrow(call, java.util.NoSuchElementException.class, run);
    }

    static void tell(String text) {
        wrong++;
        System.out.println(text);
    }

    static void end() {
        System.out.println(made + " answers, " + wrong + " wrong");
        if (wrong != 0 || made == 0) {
            System.exit(1);
        }
    }

    /** Puts a text into the buffer, which must be empty, to the very length. */
    static void put(GridPrices prices, String text) {
        byte[] bytes = text.getBytes(StandardCharsets.ISO_8859_1);
        int whole = bytes.length / 20 * 20;
        for (int at = 0; at < whole; at += 20) {
            put20(prices, bytes, at);
        }
        if (whole < bytes.length && whole + 20 <= 700) {
            put20(prices, bytes, whole);
            prices.truncate(bytes.length);
        }
    }

    private static void put20(GridPrices prices, byte[] bytes, int at) {
        prices.append(four(bytes, at), four(bytes, at + 4), four(bytes, at + 8), four(bytes, at + 12),
                four(bytes, at + 16));
    }

    private static int four(byte[] bytes, int at) {
        int value = 0;
        for (int index = at; index < at + 4; index++) {
            value = value << 8 | (index < bytes.length ? bytes[index] & 255 : ' ');
        }
        return value;
    }

    static GridPrices loaded(String text) {
        GridPrices prices = new GridPrices();
        put(prices, text);
        prices.load();
        return prices;
    }
}
