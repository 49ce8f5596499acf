import java.util.ArrayList;
import java.util.List;
import java.util.regex.Matcher;
import java.util.regex.Pattern;

/**
 * The grammar of scripts as a regular expression. Where a text goes wrong
 * follows from which of its beginnings could still be continued.
 */
final class ScriptGrammar {
    private static final String NUMBER = "[0-9]{1,3}";
    private static final String LAST_TARGET = "(?: *-| +" + NUMBER + ")";
    private static final String COMMAND = "(?:alloc *" + NUMBER + "|root *" + NUMBER + LAST_TARGET
        + "|write *" + NUMBER + " +" + NUMBER + LAST_TARGET
        + "|minor|start|step *" + NUMBER + ") *;";
    private static final Pattern SCRIPT = Pattern.compile(" *(?:" + COMMAND + " *)+");
    private static final List<String> WORDS
        = List.of("alloc", "root", "write", "minor", "start", "step");

    private ScriptGrammar() {
    }

    /** The position of the syntax error, or -1. */
    static int wrongAt(String text) {
        if (SCRIPT.matcher(text).matches()) {
            return -1;
        }
        int place = 0;
        while (place < text.length() && canGoOn(text.substring(0, place + 1))) {
            place++;
        }
        int start = place;
        while (start > 0 && isLetter(text, start - 1)) {
            start--;
        }
        int end = place;
        while (end < text.length() && isLetter(text, end)) {
            end++;
        }
        boolean unknown = start < end && !WORDS.contains(text.substring(start, end));
        return unknown ? start : place;
    }

    private static boolean canGoOn(String beginning) {
        Matcher matcher = SCRIPT.matcher(beginning);
        return matcher.matches() || matcher.hitEnd();
    }

    private static boolean isLetter(String text, int place) {
        return text.charAt(place) >= 'a' && text.charAt(place) <= 'z';
    }

    /** Each command's sign (its first letter, but 'p' for step) and its arguments. */
    static List<int[]> commands(String text) {
        List<int[]> commands = new ArrayList<>();
        for (String part : text.split(";")) {
            if (part.isBlank()) {
                continue;
            }
            String word = part.replaceAll("[^a-z]", "");
            int[] command = new int[4];
            command[0] = word.equals("step") ? 'p' : word.charAt(0);
            Matcher matcher = Pattern.compile("[0-9]+|-").matcher(part);
            for (int k = 1; matcher.find(); k++) {
                command[k] = matcher.group().equals("-") ? -1 : Integer.parseInt(matcher.group());
            }
            commands.add(command);
        }
        return commands;
    }
}
