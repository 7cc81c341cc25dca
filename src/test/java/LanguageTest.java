import java.io.IOException;
import java.nio.file.Files;
import java.nio.file.Path;
import java.util.ArrayList;
import java.util.List;
import java.util.Set;
import java.util.TreeSet;
import java.util.regex.Matcher;
import java.util.regex.Pattern;

/** The source keeps to what LANGUAGE.md says, as far as its text shows it. */
public final class LanguageTest {
    private static final String[] FORBIDDEN = {
        "->", "::", "\\btry\\b", "\\bcatch\\b", "\\bfinally\\b", "\\bsynchronized\\b",
        "\\bassert\\b", "\\bpackage\\b", "\\bprotected\\b", "\\bdouble\\b", "\\bfloat\\b",
        "\\bSystem\\.(?!arraycopy\\()", "\\bString\\.", "\\bArrays\\.(?!fill\\()", "\\bMath\\.",
        "\\bvar\\b", "\\bhashCode\\b", "\\bequals\\b", "\\btoString\\(\\)\\s*\\{",
        "\\bstatic\\s*\\{", "\\[\\s*\\]\\s*\\[", "\\bThread\\b", "Exact\\b", "\\bwhile\\b",
        "\"\\s*\\+", "\\+\\s*\"", "\\binstanceof\\b", "\\bnew \\w+\\(\\)\\s*\\{",
        "\\bfor \\([^;:]*;\\s*;",
    };
    private static final int LONGEST_METHOD = 60;

    public static void main(String[] args) throws IOException {
        String source = Files.readString(Path.of("src/main/java/Sumlarder.java"));
        String bare = source.replaceAll("(?s)/\\*.*?\\*/", "").replaceAll("//[^\n]*", "");
        Checks.due("signs are 1 to 127", source.chars().allMatch(c -> c >= 1 && c <= 127), true);
        nothingForbidden(bare);
        imports(bare);
        exceptions(bare);
        methodLengths(source);
        whatCallsMake(bare);
        Checks.finish("LanguageTest");
    }

    private static Set<String> all(String bare, String pattern) {
        Set<String> seen = new TreeSet<>();
        Matcher matcher = Pattern.compile(pattern).matcher(bare);
        while (matcher.find()) {
            seen.add(matcher.group(matcher.groupCount()));
        }
        return seen;
    }

    private static void nothingForbidden(String bare) {
        for (String pattern : FORBIDDEN) {
            Checks.due("forbidden " + pattern, all(bare, pattern), Set.of());
        }
    }

    private static void imports(String bare) {
        Checks.due("imports", all(bare, "import ([^;]+);"), Set.of("java.util.Arrays"));
    }

    private static void exceptions(String bare) {
        Checks.due("what is thrown", all(bare, "throw ([^(]+)\\("),
                Set.of("new IndexOutOfBoundsException", "new IllegalArgumentException"));
    }

    private static void methodLengths(String source) {
        List<String> lengthy = new ArrayList<>();
        String[] lines = source.split("\n");
        int start = 0;
        for (int line = 0; line < lines.length; line++) {
            if (lines[line].isBlank()) {
                start = line;
            }
            // a method ends at depth one or two of the braces
            if (lines[line].matches(" {4}( {4})?\\}") && line - start > LONGEST_METHOD) {
                lengthy.add(lines[start + 1].trim());
            }
        }
        Checks.due("methods that are too long", lengthy, List.of());
    }

    /** All calls of a run share one room: rows are made with the object, a call makes a text alone. */
    private static void whatCallsMake(String bare) {
        String calls = bare.replaceAll("(?s)    public Sumlarder\\(\\) \\{.*?\n    \\}", "")
                .replaceAll("private final \\S+ \\w+ = new ", "")
                .replaceAll("throw new ", "");
        Matcher made = Pattern.compile("\\bnew [^;]+|\\.clone\\(|\\.copyOf").matcher(calls);
        List<String> seen = new ArrayList<>();
        while (made.find()) {
            seen.add(made.group());
        }
        Checks.due("what calls make", seen, List.of("new StringBuilder()"));
    }
}
