import java.io.IOException;
import java.nio.charset.StandardCharsets;
import java.nio.file.Files;
import java.nio.file.Path;
import java.util.ArrayList;
import java.util.List;

/** The example of README.md answers what stands behind its lines; runs from the project's folder. */
public final class ReadmeTest {
    private static final Checks checks = new Checks();
    private static final List<String> rows = new ArrayList<>();

    // One line of the example: the call, and what it answered here.
    private static void row(String call, Object answer) {
        rows.add(call + "; // " + answer);
    }

    private static void run() {
        PuddingstoneLine line = new PuddingstoneLine();
        row("line.span(0, 10, 20, 3, true)", line.span(0, 10, 20, 3, true));
        row("line.span(1, 15, 30, 0, true)", line.span(1, 15, 30, 0, true));
        row("line.join(2, 0, 1, 1)", line.join(2, 0, 1, 1));
        row("line.ofSet(2, 2)", line.ofSet(2, 2));
        row("line.ofSpan(2, 0, 2)", line.ofSpan(2, 0, 2));
        row("line.raise(0, 12, 18, 3, 50)", line.raise(0, 12, 18, 3, 50));
        row("line.mean(0, 2)", line.mean(0, 2));
        row("line.thick(1, 3)", line.thick(1, 3));
        row("line.cover(3, 2)", line.cover(3, 2));
        row("line.covers(3, 2, 0)", line.covers(3, 2, 0));
        row("line.clear(0, 1)", line.clear(0, 1));
        row("line.has(0, 40)", line.has(0, 40));
    }

    // The calls between the ``` of the example, each up to the ":" behind its answer.
    private static List<String> written() throws IOException {
        List<String> written = new ArrayList<>();
        for (String text : Files.readString(Path.of("README.md"), StandardCharsets.UTF_8).split("\n")) {
            if (text.startsWith("line.")) {
                int end = text.indexOf(':');
                written.add(text.substring(0, end < 0 ? text.length() : end).replaceAll(" +//", " //"));
            }
        }
        return written;
    }

    public static void main(String[] args) throws IOException {
        run();
        List<String> written = written();
        checks.same("calls in README.md", written.size(), rows.size());
        for (int k = 0; k < Math.min(rows.size(), written.size()); k++) {
            checks.same("README.md, call " + k, written.get(k), rows.get(k));
        }
        checks.end("ReadmeTest");
    }
}
