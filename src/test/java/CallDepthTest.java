import java.io.DataInputStream;
import java.io.IOException;
import java.io.InputStream;
import java.util.ArrayList;
import java.util.HashMap;
import java.util.List;
import java.util.Map;
import java.util.Set;
import java.util.TreeSet;

/**
 * Rules 8 and 11 of LANGUAGE.md: no method of the program calls itself, directly or through others, and calls
 * go at most eight deep. Who calls whom is read from the class files.
 */
public final class CallDepthTest {

    private static final int MOST = 8;
    private static final int INVOKE_FIRST = 182;
    private static final int INVOKE_LAST = 185;

    /** The methods of the program, each with those it calls. */
    private final Map<String, Set<String>> calls = new HashMap<>();
    /** The longest chain of calls from a method; an empty one while it is being looked for. */
    private final Map<String, List<String>> chains = new HashMap<>();
    private Object[] pool;

    private CallDepthTest() {
    }

    public static void main(String[] args) throws IOException {
        CallDepthTest test = new CallDepthTest();
        test.read(GridPrices.class);
        for (Class<?> inside : GridPrices.class.getDeclaredClasses()) {
            test.read(inside);
        }
        Check.due("methods were found", test.calls.size() > 100, true);
        List<String> longest = new ArrayList<>();
        for (String method : test.calls.keySet()) {
            List<String> chain = test.chain(method);
            longest = chain.size() > longest.size() ? chain : longest;
        }
        Check.due("paid is found to reach the simplex method",
                test.chain("GridPrices.paid(III)J").size() > 5, true);
        Check.due("deep: " + longest, longest.size() <= MOST, true);
        Check.end();
    }

    private List<String> chain(String method) {
        List<String> known = chains.get(method);
        if (known != null) {
            Check.due("calls itself: " + method, known.isEmpty(), false);
            return known;
        }
        chains.put(method, List.of());
        List<String> longest = List.of();
        for (String called : calls.get(method)) {
            List<String> rest = calls.containsKey(called) ? chain(called) : List.of();
            longest = rest.size() > longest.size() ? rest : longest;
        }
        List<String> chain = new ArrayList<>(List.of(method));
        chain.addAll(longest);
        chains.put(method, chain);
        return chain;
    }

    // ---- reading a class file

    private void read(Class<?> read) throws IOException {
        String name = read.getName();
        try (InputStream bytes = read.getResourceAsStream(name + ".class");
                DataInputStream in = new DataInputStream(bytes)) {
            in.skipNBytes(8);
            readPool(in);
            in.skipNBytes(6);
            in.skipNBytes(2L * in.readUnsignedShort());
            readMembers(in, name, false);
            readMembers(in, name, true);
        }
    }

    /** Texts stay texts; of the other constants only the two numbers of a reference matter. */
    private void readPool(DataInputStream in) throws IOException {
        int size = in.readUnsignedShort();
        pool = new Object[size];
        for (int index = 1; index < size; index++) {
            int tag = in.readUnsignedByte();
            switch (tag) {
                case 1 -> pool[index] = in.readUTF();
                case 3, 4, 9, 10, 11, 12, 17, 18 ->
                    pool[index] = new int[] {in.readUnsignedShort(), in.readUnsignedShort()};
                case 5, 6 -> {
                    in.skipNBytes(8);
                    index++;
                }
                case 15 -> in.skipNBytes(3);
                default -> pool[index] = new int[] {in.readUnsignedShort(), 0};
            }
        }
    }

    private String text(int index) {
        return (String) pool[index];
    }

    private int[] pair(int index) {
        return (int[]) pool[index];
    }

    private String methodAt(int reference) {
        int[] parts = pair(reference);
        int[] nameAndType = pair(parts[1]);
        return text(pair(parts[0])[0]) + "." + text(nameAndType[0]) + text(nameAndType[1]);
    }

    private void readMembers(DataInputStream in, String owner, boolean areMethods) throws IOException {
        for (int left = in.readUnsignedShort(); left > 0; left--) {
            in.skipNBytes(2);
            String name = owner + "." + text(in.readUnsignedShort()) + text(in.readUnsignedShort());
            Set<String> called = new TreeSet<>();
            for (int attributes = in.readUnsignedShort(); attributes > 0; attributes--) {
                boolean isCode = text(in.readUnsignedShort()).equals("Code");
                byte[] body = in.readNBytes(in.readInt());
                if (isCode) {
                    findCalls(body, called);
                }
            }
            if (areMethods) {
                calls.put(name, called);
            }
        }
    }

    /** The instructions stand behind 8 bytes. */
    private void findCalls(byte[] body, Set<String> called) {
        int end = 8 + number(body, 4);
        for (int at = 8; at < end; at += length(body, at)) {
            int code = body[at] & 255;
            if (code >= INVOKE_FIRST && code <= INVOKE_LAST) {
                called.add(methodAt(number(body, at) >> 8 & 0xffff));
            }
        }
    }

    /** The four bytes from a place on. */
    private static int number(byte[] body, int at) {
        int value = 0;
        for (int index = at; index < at + 4; index++) {
            value = value << 8 | (index < body.length ? body[index] & 255 : 0);
        }
        return value;
    }

    private static int length(byte[] body, int at) {
        int code = body[at] & 255;
        int table = at + 4 - (at - 8) % 4; // where the numbers of a switch begin
        if (code == 170) {
            return table + 12 + 4 * (number(body, table + 8) - number(body, table + 4) + 1) - at;
        }
        if (code == 171) {
            return table + 8 + 8 * number(body, table + 4) - at;
        }
        if (code == 196) {
            return (body[at + 1] & 255) == 132 ? 6 : 4;
        }
        if (code == 185 || code == 186 || code == 200 || code == 201) {
            return 5;
        }
        if (code == 197) {
            return 4;
        }
        boolean isThree = code == 17 || code == 19 || code == 20 || code == 132 || code >= 153 && code <= 168
                || code >= 178 && code <= 184 || code == 187 || code == 189 || code == 192 || code == 193
                || code == 198 || code == 199;
        boolean isTwo = code == 16 || code == 18 || code >= 21 && code <= 25 || code >= 54 && code <= 58
                || code == 169 || code == 188;
        return isThree ? 3 : isTwo ? 2 : 1;
    }
}
