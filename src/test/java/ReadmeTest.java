import java.io.IOException;
import java.nio.file.Files;
import java.nio.file.Path;
import java.util.HashSet;
import java.util.Set;
import java.util.regex.Matcher;
import java.util.regex.Pattern;

/** The calls in README.md's example answer what stands behind them, and each promise is among them. */
public final class ReadmeTest {
    private static final Pattern CALL = Pattern.compile("watch\\.(\\w+)\\(([^)]*)\\); +// (-?\\d+|throws)\\b.*");
    private static final Set<String> CALLS = Set.of("part", "edge", "deadline", "point", "cycle", "tolerance", "answer",
            "mode", "reset", "outer", "state");

    public static void main(String[] args) throws IOException {
        Run run = new Run("README.md");
        Set<String> seen = new HashSet<>();
        for (String line : Files.readAllLines(Path.of("README.md"))) {
            if (line.startsWith("watch.")) {
                Matcher m = CALL.matcher(line);
                Due.is("a call with its answer: " + line, m.matches() ? 1 : 0, 1);
                if (m.matches()) {
                    seen.add(m.group(1));
                    run.due("%s(%s) %s", m.group(1), m.group(2).replace("L", ""), m.group(3));
                }
            }
        }
        Due.is("all calls are in the example, not only " + seen, seen.equals(CALLS) ? 1 : 0, 1);
        Due.end();
    }
}
