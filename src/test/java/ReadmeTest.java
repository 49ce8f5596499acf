import java.io.IOException;
import java.nio.file.Files;
import java.nio.file.Path;
import java.util.regex.Matcher;
import java.util.regex.Pattern;

/** Makes the calls that README.md shows, and holds their answers against those that it tells. */
public final class ReadmeTest {
    private static final Path PAGE = Path.of("README.md");
    private static final Pattern NEW = Pattern.compile("GenerationalHeap heap = new .*");
    private static final Pattern TYPED
        = Pattern.compile("for \\(char sign : \"([^\"]*)\"\\.toCharArray\\(\\)\\) \\{");
    private static final Pattern CALL
        = Pattern.compile("heap\\.(\\w+\\([^)]*\\)); +// (-?\\d+)(?:,.*)?");
    private static final Pattern QUOTED = Pattern.compile("length of \"([^\"]*)\"");
    private static final Due due = new Due("ReadmeTest");

    private ReadmeTest() {
    }

    public static void main(String[] args) throws IOException {
        Run run = new Run(due);
        boolean code = false;
        int calls = 0;
        for (String line : Files.readAllLines(PAGE)) {
            if (line.startsWith("```")) {
                code = line.equals("```java");
            } else if (code && NEW.matcher(line).matches()) {
                run = new Run(due);
            } else if (code) {
                calls += make(run, line);
            }
        }
        due.holds("README.md shows no calls", calls > 0);
        due.end();
    }

    /** Answers the number of calls whose answers the line tells. */
    private static int make(Run run, String line) {
        Matcher typed = TYPED.matcher(line);
        Matcher call = CALL.matcher(line);
        if (typed.matches()) {
            run.append(typed.group(1));
            return 0;
        }
        if (!call.matches()) {
            boolean known = line.equals("    heap.append(sign);") || line.equals("}");
            due.holds("README.md tells no answer: " + line, known);
            return 0;
        }
        run.due(call.group(1).replace("GenerationalHeap.", ""), Long.parseLong(call.group(2)));
        Matcher quoted = QUOTED.matcher(line);
        if (quoted.find()) {
            run.output(quoted.group(1));
        }
        return 1;
    }
}
