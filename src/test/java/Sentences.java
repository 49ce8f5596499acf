import java.io.IOException;
import java.nio.file.Files;
import java.nio.file.Path;
import java.util.ArrayList;
import java.util.List;
import java.util.regex.Matcher;
import java.util.regex.Pattern;

/** The document cut into its sentences; where one lists cases by semicolons, into these. */
final class Sentences {
    private static final Path DOCUMENT = Path.of("../shared/DOC.md");
    private static final Pattern PROMISE = Pattern.compile("## Promise (\\d+):.*");

    private Sentences() {
    }

    /** Each as "section | sentence", as a sentence may stand in several sections. */
    static List<String> all() throws IOException {
        List<String> sentences = new ArrayList<>();
        String section = "";
        boolean code = false;
        for (String line : Files.readAllLines(DOCUMENT)) {
            Matcher promise = PROMISE.matcher(line);
            if (line.startsWith("```")) {
                code = !code;
            } else if (promise.matches()) {
                section = promise.group(1);
            } else if (line.startsWith("#")) {
                section = line.replaceFirst("#+ ", "");
            } else if (line.matches("[A-Z ]+")) {
                section = line;
            } else if (!code && !line.isBlank() && !isSignature(line)) {
                for (String sentence : line.split("(?<=\\.) (?=[A-Z\"])|; ")) {
                    sentences.add(section + " | " + sentence);
                }
            }
        }
        return sentences;
    }

    private static boolean isSignature(String line) {
        return line.startsWith("`") || line.startsWith("----");
    }
}
