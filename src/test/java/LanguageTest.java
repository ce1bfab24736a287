import java.io.IOException;
import java.nio.file.Files;
import java.nio.file.Path;
import java.util.List;
import java.util.Set;
import java.util.TreeSet;
import java.util.regex.Matcher;
import java.util.regex.Pattern;

/** The source keeps to the rules of ../shared/LANGUAGE.md, as far as a look at its text can tell. */
public final class LanguageTest {

    private static final Path SOURCE = Path.of("src/main/java/GridPrices.java");
    private static final List<String> FORBIDDEN = List.of("->", "::", "Exact", "finally", "synchronized", "assert",
            "instanceof", "catch", "try", "@", "Float.", "Double.", "System.", "Object", "package ", "static {",
            "yield", "hashCode", "toString", "NaN", "native", "volatile", "transient", "Thread", "Random", "protected ");

    private LanguageTest() {
    }

    public static void main(String[] args) throws IOException {
        String text = Files.readString(SOURCE);
        String code = text.replaceAll("(?s)/\\*.*?\\*/", "").replaceAll("//[^\n]*", "")
                .replaceAll("\"[^\"\n]*\"", "\"\"");
        for (String word : FORBIDDEN) {
            Check.due("holds " + word, code.contains(word), false);
        }
        same("imports", found(code, "import ([\\w.]+);"),
                Set.of("java.util.ArrayList", "java.util.NoSuchElementException"));
        Set<String> library = found(code, "\\b((?:Math|Integer|Long|Arrays)\\.\\w+)");
        library.removeAll(Set.of("Math.abs", "Math.max", "Math.min"));
        same("library", library, Set.of());
        Set<String> thrown = found(code, "throw (?:new )?(\\w+)");
        same("exceptions", thrown, Set.of("IllegalStateException", "IllegalArgumentException",
                "IndexOutOfBoundsException", "NoSuchElementException"));
        same("static fields", found(code, "static (?!final)(\\w+ \\w+ *[=;])"), Set.of());
        same("types of constants", found(code, "static final (?!class)(\\w+) [A-Z]"), Set.of("int"));
        methodLengths(code);
        signs(text);
        Check.end();
    }

    private static Set<String> found(String code, String pattern) {
        Set<String> found = new TreeSet<>();
        Matcher matcher = Pattern.compile(pattern).matcher(code);
        while (matcher.find()) {
            found.add(matcher.group(1));
        }
        return found;
    }

    private static void same(String about, Set<String> got, Set<String> want) {
        Check.dueText(about, new TreeSet<>(got).toString(), new TreeSet<>(want).toString());
    }

    /** A method is what stands between a line with parentheses and an opening brace, and its closing one. */
    private static void methodLengths(String code) {
        String[] lines = code.split("\n");
        for (int indent : new int[] {4, 8}) {
            String margin = " ".repeat(indent);
            int start = -1;
            for (int line = 0; line < lines.length; line++) {
                boolean isOpening = lines[line].matches(margin + "(?! )[^=]*\\(.*\\{") || lines[line].matches(
                        margin + "        throws .*\\{");
                start = isOpening && start < 0 ? line : start;
                if (lines[line].equals(margin + "}")) {
                    Check.due("method of at most 60 lines at " + line, start < 0 || line - start <= 60, true);
                    start = -1;
                }
            }
        }
    }

    private static void signs(String text) {
        for (int index = 0; index < text.length(); index++) {
            char sign = text.charAt(index);
            if (sign != '\n' && (sign < 32 || sign > 126)) {
                Check.tell("sign " + (int) sign + " at " + index);
            }
        }
    }
}
