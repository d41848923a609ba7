import java.io.IOException;
import java.nio.file.Files;
import java.nio.file.Path;
import java.util.ArrayList;
import java.util.List;
import java.util.regex.Matcher;
import java.util.regex.Pattern;

/** README.md's example: it uses every call of the face, and each one answers what its comment says. */
public final class EventPatternsReadme {
    private static final String[] FACE = {
        "event", "clear", "pattern", "step", "count", "latest", "length", "match", "events",
    };

    /** A call and its comment; one that begins with a number or with throws tells the answer. */
    private static final Pattern ROW =
            Pattern.compile("row\\.(\\w+\\(.*?\\)); +// (?:(-?\\d+)(?::.*)?|throws (\\w+)(?::.*)?|[a-z].*)");

    public static void main(String[] args) throws IOException {
        List<String> calls = calls();
        for (String method : FACE) {
            boolean used = calls.stream().anyMatch(call -> call.startsWith(method + "("));
            Due.text("README.md's example uses " + method, String.valueOf(used), "true");
        }
        new Run("README.md's example", calls.toArray(new String[0]));
        Due.end();
    }

    private static List<String> calls() throws IOException {
        List<String> calls = new ArrayList<>();
        for (String line : example().split("\n")) {
            if (line.startsWith("row.")) {
                calls.add(call(line));
            }
        }
        return calls;
    }

    private static String example() throws IOException {
        String text = Files.readString(Path.of("README.md"));
        int begin = text.indexOf("```java\n");
        int end = text.indexOf("\n```\n", begin);
        return begin < 0 || end < 0 ? "" : text.substring(begin, end);
    }

    private static String call(String line) {
        Matcher row = ROW.matcher(line);
        if (!row.matches()) {
            throw new AssertionError("README.md: not a call with a comment: " + line);
        }
        if (row.group(2) != null) {
            return row.group(1) + " = " + row.group(2);
        }
        return row.group(1) + (row.group(3) != null ? " = throws." + row.group(3) : "");
    }
}
