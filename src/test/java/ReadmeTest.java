import java.io.IOException;
import java.lang.reflect.Method;
import java.lang.reflect.Modifier;
import java.nio.file.Files;
import java.nio.file.Path;
import java.util.List;
import java.util.Set;
import java.util.TreeSet;
import java.util.regex.Matcher;
import java.util.regex.Pattern;

/** What README.md says is so: its rows of Java, and the calls and files that it names. */
public final class ReadmeTest {
    private static final Pattern CALL = Pattern.compile(
            "conic\\.(\\w+\\([-0-9, ]*\\)); +// (-?\\d+|NOTHING|throws ArithmeticException)\\b.*");
    private static final Pattern TEST_NAME = Pattern.compile("`(\\w+Test)`");

    public static void main(String[] args) throws IOException {
        List<String> lines = Files.readAllLines(Path.of("README.md"));
        String text = String.join("\n", lines);
        playRows(lines);
        checkCalls(text);
        checkFiles(text);
        Checks.end();
    }

    private static void playRows(List<String> lines) {
        boolean inJava = false;
        int rows = 0;
        ConicKinds conic = null;
        for (String line : lines) {
            if (line.startsWith("```")) {
                inJava = line.equals("```java");
            } else if (inJava && line.equals("ConicKinds conic = new ConicKinds();")) {
                conic = new ConicKinds();
            } else if (inJava) {
                rows++;
                playRow(conic, line);
            }
        }
        Checks.holds("README.md has rows of Java", rows > 0);
    }

    private static void playRow(ConicKinds conic, String line) {
        Matcher matcher = CALL.matcher(line);
        Checks.holds("a call with its answer: " + line, conic != null && matcher.matches());
        if (conic != null && matcher.matches()) {
            String answer = matcher.group(2).replace("throws ", "throws.");
            Checks.due(line, Calls.askText(conic, matcher.group(1)), Calls.answerOf(answer));
        }
    }

    private static void checkCalls(String text) {
        for (Method method : ConicKinds.class.getDeclaredMethods()) {
            if (Modifier.isPublic(method.getModifiers())) {
                Checks.holds("a row of the table tells of " + method.getName(),
                        text.contains("\n| `" + method.getName() + "("));
            }
        }
    }

    private static void checkFiles(String text) throws IOException {
        Set<String> named = new TreeSet<>();
        Matcher matcher = TEST_NAME.matcher(text);
        while (matcher.find()) {
            named.add(matcher.group(1));
        }
        Set<String> tests = new TreeSet<>();
        try (var files = Files.list(Path.of("src/test/java"))) {
            files.map(file -> file.getFileName().toString().replace(".java", "")).forEach(name -> {
                Checks.holds("README.md names " + name, text.contains("`" + name + "`"));
                if (name.endsWith("Test")) {
                    tests.add(name);
                }
            });
        }
        Checks.holds("README.md names just the tests that there are: " + named, named.equals(tests));
    }
}
