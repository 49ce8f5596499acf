import java.lang.reflect.InvocationTargetException;
import java.lang.reflect.Method;
import java.util.Arrays;
import java.util.regex.Matcher;
import java.util.regex.Pattern;

/**
 * One object and the calls made on it. Calls are told as text, "write(0, 1, NULL)", so
 * that a fault can show the whole run; max and min stand for the utmost numbers.
 */
final class Run {
    private static final int MOST_CALLS = 512;
    private static final int SHOWN = 600;
    private static final Pattern CALL = Pattern.compile("(\\w+)\\(([^)]*)\\)");

    private final Due due;
    private final GenerationalHeap heap = new GenerationalHeap();
    private final StringBuilder history = new StringBuilder();
    private int calls = 0;

    Run(Due due) {
        this.due = due;
    }

    Run(Due due, String setUp) {
        this(due);
        does(setUp);
    }

    /** Tenure 1; the objects 0, 1, .. with these field counts are old and not reachable. */
    static Run withOld(Due due, int... fieldCounts) {
        Run run = new Run(due, "reset(64, 128, 1)");
        for (int id = 0; id < fieldCounts.length; id++) {
            run.does("allocate(" + fieldCounts[id] + ") setRoot(0, " + id + ") minorCollection()");
        }
        return fieldCounts.length == 0 ? run : run.does("setRoot(0, NULL)");
    }

    /** The object 0 is old, black and in root 0, the object 1 old and white; both have 2 fields. */
    static Run sweeping(Due due) {
        return withOld(due, 2, 2).does("setRoot(0, 0) startMajor() stepMajor(2)");
    }

    /** Makes calls of which none may fail. */
    Run does(String text) {
        Matcher matcher = CALL.matcher(text);
        while (matcher.find()) {
            long answer = ask(matcher.group());
            boolean failed = answer <= GenerationalHeap.INVALID && answer >= GenerationalHeap.FULL;
            due.holds(matcher.group() + " failed behind " + shown(), !failed);
        }
        return this;
    }

    Run many(int times, String text) {
        for (int k = 0; k < times; k++) {
            does(text);
        }
        return this;
    }

    /** Each of the calls in the text has this answer. */
    Run due(String text, long want) {
        Matcher matcher = CALL.matcher(text);
        while (matcher.find()) {
            String before = shown();
            long got = ask(matcher.group());
            if (got != want) {
                due.tell(matcher.group() + " answered " + got + ", due is " + want
                    + ", behind " + before);
            }
        }
        return this;
    }

    long ask(String call) {
        Matcher matcher = CALL.matcher(call);
        if (!matcher.matches()) {
            throw new IllegalArgumentException("no call: " + call);
        }
        calls++;
        due.holds("a run of more than 512 calls", calls <= MOST_CALLS);
        long answer = invoke(matcher.group(1), arguments(matcher.group(2)));
        history.append(call).append(' ');
        return answer;
    }

    private static Object[] arguments(String text) {
        if (text.isBlank()) {
            return new Object[0];
        }
        String[] parts = text.split(",");
        Object[] values = new Object[parts.length];
        for (int k = 0; k < parts.length; k++) {
            values[k] = number(parts[k].strip());
        }
        return values;
    }

    private static int number(String text) {
        switch (text) {
            case "NULL":
                return GenerationalHeap.NULL;
            case "max":
                return Integer.MAX_VALUE;
            case "min":
                return Integer.MIN_VALUE;
            default:
                return Integer.parseInt(text);
        }
    }

    private long invoke(String name, Object[] values) {
        Class<?>[] kinds = new Class<?>[values.length];
        Arrays.fill(kinds, int.class);
        try {
            Method method = GenerationalHeap.class.getMethod(name, kinds);
            return ((Number) method.invoke(heap, values)).longValue();
        } catch (InvocationTargetException fault) {
            throw new IllegalStateException(name + " threw, behind " + shown(), fault.getCause());
        } catch (ReflectiveOperationException fault) {
            throw new IllegalArgumentException(fault);
        }
    }

    Run type(String text) {
        return does("clearText()").append(text);
    }

    Run append(String text) {
        for (int k = 0; k < text.length(); k++) {
            ask("append(" + (int) text.charAt(k) + ")");
        }
        return this;
    }

    Run script(String text, long want) {
        return type(text).due("runScript()", want);
    }

    Run nursery(String want) {
        return list("nursery", "youngCount()", "youngObject", want);
    }

    Run remembered(String want) {
        return list("remembered set", "rememberedCount()", "remembered", want);
    }

    private Run list(String name, String size, String element, String want) {
        StringBuilder line = new StringBuilder();
        long count = ask(size);
        for (int k = 0; k < count; k++) {
            line.append(k == 0 ? "" : " ").append(ask(element + "(" + k + ")"));
        }
        return shows(name, line.toString(), want);
    }

    Run errors(int invalid, int rejected, int full) {
        String got = ask("errorCount(0)") + " " + ask("errorCount(1)") + " " + ask("errorCount(2)");
        return shows("errors", got, invalid + " " + rejected + " " + full);
    }

    Run output(String want) {
        StringBuilder line = new StringBuilder();
        long sign = ask("outputByte(0)");
        for (int k = 1; sign != GenerationalHeap.NONE && k < 100; k++) {
            line.append((char) sign);
            sign = ask("outputByte(" + k + ")");
        }
        return shows("output", line.toString(), want);
    }

    private Run shows(String what, String got, String want) {
        if (!got.equals(want)) {
            due.tell("the " + what + " is '" + got + "', due is '" + want + "', behind " + shown());
        }
        return this;
    }

    private String shown() {
        int from = Math.max(0, history.length() - SHOWN);
        return (from > 0 ? ".. " : "") + history.substring(from);
    }
}
