import java.io.IOException;
import java.nio.file.Files;
import java.nio.file.Path;
import java.util.List;
import java.util.regex.Matcher;
import java.util.regex.Pattern;

/**
 * Makes a test of the Java that README.md shows: <code>java ReadmeTest README.md ReadmeCalls.java</code>.
 * A block that begins with "static" is taken as it stands; of the other ones each line is a call with the
 * answer that is due behind it, as in <code>work.lines(0); // 3: words</code> or
 * <code>work.read(6); // throws IllegalArgumentException: words</code>. A call without an answer is refused,
 * and the test fails for a call of the face that is not shown.
 */
public final class ReadmeTest {
    private static final Pattern CALL = Pattern.compile("(\\S.*?);\\s*// (.+)");
    private static final Pattern MADE = Pattern.compile("Chainwork \\w+ = new Chainwork\\(\\);.*");
    private static final Pattern THROWS = Pattern.compile("throws (\\w+)");

    private static final String HEAD = """
        import java.lang.reflect.Method;
        import java.lang.reflect.Modifier;
        import java.util.NoSuchElementException;
        import java.util.Set;

        public final class ReadmeCalls {
            private static final int NONE = Chainwork.NONE;
            private static final int RISES = Chainwork.RISES, FALLS = Chainwork.FALLS, MIXED = Chainwork.MIXED;
            private static final int EQUAL = Chainwork.EQUAL, LESS = Chainwork.LESS, MORE = Chainwork.MORE;

            private ReadmeCalls() { }

        """;
    private static final String FACE = """
                for (Method method : Chainwork.class.getDeclaredMethods()) {
                    if (Modifier.isPublic(method.getModifiers())) {
                        Due.yes("README.md shows " + method.getName(), shown.contains(method.getName()));
                    }
                }
                Due.end("ReadmeCalls");
            }
        }
        """;

    private final StringBuilder functions = new StringBuilder();
    private final StringBuilder calls = new StringBuilder();
    private final java.util.TreeSet<String> shown = new java.util.TreeSet<>();

    private ReadmeTest() { }

    public static void main(String[] args) throws IOException {
        ReadmeTest made = new ReadmeTest();
        made.readBlocks(Files.readAllLines(Path.of(args[0])));
        Files.writeString(Path.of(args[1]), made.source());
    }

    private void readBlocks(List<String> lines) {
        boolean isInside = false;
        boolean isFunction = false;
        for (String line : lines) {
            if (line.startsWith("```")) {
                isInside = !isInside && line.equals("```java");
                isFunction = false;
            } else if (isInside) {
                isFunction = isFunction || line.startsWith("static ");
                if (isFunction) {
                    functions.append("    ").append(line).append('\n');
                    show(line);
                } else if (!line.isBlank()) {
                    addCall(line.trim());
                }
            }
        }
    }

    private void addCall(String line) {
        if (MADE.matcher(line).matches()) {
            calls.append("        ").append(line).append('\n');
            return;
        }
        Matcher call = CALL.matcher(line);
        if (!call.matches()) {
            throw new IllegalArgumentException("README.md tells no answer: " + line);
        }
        show(call.group(1));
        calls.append("        ").append(looked(call.group(1), call.group(2).split(": ")[0])).append('\n');
    }

    private void show(String code) {
        Matcher named = Pattern.compile("\\bwork\\.(\\w+)\\(").matcher(code);
        while (named.find()) {
            shown.add(named.group(1));
        }
    }

    /** The line of the test that looks whether the call answers so. */
    private static String looked(String call, String answer) {
        String what = "\"README.md: " + call.replace("\\", "\\\\").replace("\"", "\\\"") + "\", ";
        Matcher thrown = THROWS.matcher(answer);
        if (thrown.matches()) {
            return "Due.thrown(" + what + thrown.group(1) + ".class, () -> " + call + ");";
        }
        if (answer.equals("true") || answer.equals("false")) {
            return "Due." + (answer.equals("true") ? "yes(" : "no(") + what + call + ");";
        }
        return "Due." + (answer.startsWith("\"") ? "text(" : "same(") + what + call + ", " + answer + ");";
    }

    private String source() {
        if (calls.length() == 0) {
            throw new IllegalArgumentException("README.md shows no call");
        }
        String names = "\"" + String.join("\", \"", shown) + "\"";
        return HEAD + functions + "\n    public static void main(String[] args) {\n" + calls
            + "        Set<String> shown = Set.of(" + names + ");\n" + FACE;
    }
}
