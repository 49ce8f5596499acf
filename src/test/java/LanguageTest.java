import java.io.IOException;
import java.nio.file.Files;
import java.nio.file.Path;
import java.util.regex.Matcher;
import java.util.regex.Pattern;

/** The rules of LANGUAGE.md that can be read off the program's text. */
public final class LanguageTest {
    private static final Path PROGRAM = Path.of("src/main/java/GenerationalHeap.java");
    private static final String[] FORBIDDEN = {
        "\\b(throw|throws|try|catch|finally|synchronized|assert|package|native|volatile)\\b",
        "->", "::", "\\b(System\\.(?!arraycopy)|Thread|Random|File|Runtime|Object)\\b",
        "\\w+Exact\\b", "\\b(equals|hashCode|toString)\\(\\)\\s*\\{", "\\bstatic\\s*\\{",
        "\\bprotected\\b", "\\bwhile\\s*\\(\\s*true\\b", "\\bfor\\s*\\(\\s*;\\s*;"};
    private static final int MOST_LINES = 60;
    private static final int MOST_CLASSES = 12;
    private static final int MOST_FIELDS = 20;
    private static final Due due = new Due("LanguageTest");

    public static void main(String[] args) throws IOException {
        String text = Files.readString(PROGRAM);
        String code = bare(text);
        for (String pattern : FORBIDDEN) {
            Matcher matcher = Pattern.compile(pattern).matcher(code);
            if (matcher.find()) {
                due.tell("the program holds '" + matcher.group() + "'");
            }
        }
        imports(code);
        signs(text);
        methods(code);
        classes(code);
        due.end();
    }

    /** The code without comments, texts and signs, line by line as it was. */
    private static String bare(String text) {
        String code = Pattern.compile("/\\*.*?\\*/", Pattern.DOTALL).matcher(text)
            .replaceAll(match -> match.group().replaceAll("[^\n]", " "));
        code = code.replaceAll("//[^\n]*", "");
        return code.replaceAll("\"[^\"\n]*\"", "\"\"").replaceAll("'[^'\n]+'", "' '");
    }

    private static void imports(String code) {
        Matcher matcher = Pattern.compile("import\\s+([^;]+);").matcher(code);
        while (matcher.find()) {
            due.holds("import of " + matcher.group(1),
                matcher.group(1).matches("java\\.util\\.(Arrays|ArrayList|List|Iterator)"));
        }
    }

    private static void signs(String text) {
        for (int k = 0; k < text.length(); k++) {
            due.holds("sign " + (int) text.charAt(k) + " at " + k,
                text.charAt(k) >= 1 && text.charAt(k) <= 127);
        }
    }

    private static void methods(String code) {
        String[] lines = code.split("\n", -1);
        Pattern head = Pattern.compile("^( {4}| {8})(?! )[\\w\\[\\] ]+\\(([^)]*)\\) \\{$");
        for (int k = 0; k < lines.length; k++) {
            Matcher matcher = head.matcher(lines[k]);
            if (!matcher.find() || lines[k].matches("\\s*(if|for|while|switch)\\b.*")) {
                continue;
            }
            int end = k;
            while (end < lines.length && !lines[end].equals(matcher.group(1) + "}")) {
                end++;
            }
            due.holds("too long: " + lines[k].strip(), end - k < MOST_LINES);
            due.holds("too many parameters: " + lines[k].strip(),
                matcher.group(2).split(",").length <= 7);
        }
    }

    private static void classes(String code) {
        String[] parts = code.split("\\bclass\\b");
        due.holds("too many classes", parts.length - 1 <= MOST_CLASSES);
        for (int k = 1; k < parts.length; k++) {
            int fields = 0;
            for (String line : parts[k].split("\n")) {
                boolean field = line.matches("^\\s+private (final )?[\\w\\[\\]]+ \\w+( = .*)?;$");
                fields += field ? 1 : 0;
            }
            due.holds("too many fields in class" + parts[k].split("\\{")[0], fields <= MOST_FIELDS);
        }
        Matcher matcher = Pattern.compile("\n ++(?!private static)[^\n]*\\bclass\\b").matcher(code);
        due.holds("a class inside that isn't private and static", !matcher.find());
    }
}
