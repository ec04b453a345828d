import java.io.IOException;
import java.nio.charset.StandardCharsets;
import java.nio.file.Files;
import java.nio.file.Path;
import java.util.ArrayList;
import java.util.List;
import java.util.regex.Matcher;
import java.util.regex.Pattern;

/** What of ../shared/LANGUAGE.md can be seen in the text of the class; runs from the project's folder. */
public final class SourceRulesTest {
    private static final String[] FORBIDDEN = {"package", "->", "::", "finally", "synchronized", "assert", "native",
        "protected", "hashCode", "toString", "Thread", "getMessage", "NullPointerException", "ClassCastException",
        "ArrayIndexOutOfBoundsException", "NegativeArraySizeException", "ArrayStoreException", "catch (Throwable",
        "catch (Exception", "catch (RuntimeException"};

    private static boolean isFound(String code, String word) {
        String edge = Character.isLetter(word.charAt(0)) ? "\\b" : "";
        return Pattern.compile(edge + Pattern.quote(word) + edge).matcher(code).find();
    }

    // Comments and texts away, so that only code is looked at.
    private static String codeOf(String source) {
        return source.replaceAll("(?s)/\\*.*?\\*/", "").replaceAll("//[^\\n]*", "").replaceAll("\"[^\"\\n]*\"", "\"\"");
    }

    private static int longestMethod(String code) {
        int longest = 0;
        int begin = -1;
        String[] lines = code.split("\n");
        for (int k = 0; k < lines.length; k++) {
            if (lines[k].matches(" {4}( {4})?[A-Za-z].*") && !lines[k].contains(";") && !lines[k].contains(" class ")) {
                begin = begin < 0 ? k : begin;
            }
            if (begin >= 0 && lines[k].matches(" {4}( {4})?}")) {
                longest = Math.max(longest, k - begin + 1);
                begin = -1;
            }
        }
        return longest;
    }

    private static List<String> thrown(String code) {
        List<String> thrown = new ArrayList<>();
        Matcher matcher = Pattern.compile("throw new (\\w+)\\(").matcher(code);
        while (matcher.find()) {
            thrown.add(matcher.group(1));
        }
        return thrown;
    }

    public static void main(String[] args) throws IOException {
        Checks checks = new Checks();
        Path file = Path.of("src/main/java/PuddingstoneLine.java");
        String source = Files.readString(file, StandardCharsets.UTF_8);
        String code = codeOf(source);
        checks.same("signs are 1 to 127", source.chars().allMatch(sign -> sign >= 1 && sign <= 127), true);
        for (String word : FORBIDDEN) {
            checks.same(word + " is in the code", isFound(code, word), false);
        }
        for (String name : thrown(code)) {
            boolean isNamed = name.equals("IndexOutOfBoundsException") || name.equals("IllegalArgumentException");
            checks.same(name + " is named by the document", isNamed, true);
        }
        checks.same("methods are short", longestMethod(code) <= 60, true);
        checks.same("there are few classes", code.split(" class ").length - 1 <= 12, true);
        checks.end("SourceRulesTest");
    }
}
