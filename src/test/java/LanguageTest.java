import java.io.IOException;
import java.lang.reflect.Field;
import java.lang.reflect.Modifier;
import java.nio.file.Files;
import java.nio.file.Path;
import java.util.ArrayList;
import java.util.List;
import java.util.regex.Matcher;
import java.util.regex.Pattern;

/** Rules of LANGUAGE.md that can be read off the text of the class, or counted in it. */
public final class LanguageTest {
    private static final Path FILE = Path.of("src/main/java/ConicKinds.java");
    private static final Pattern METHOD = Pattern.compile("( {4}| {8})(?=\\S)[\\w\\[\\] ]+\\(.*\\{");

    // What the rules forbid, and what the class has no need of and would have to be looked at.
    private static final String[] FORBIDDEN = {
        "package", "try", "catch", "finally", "synchronized", "assert", "instanceof", "double", "float",
        "Object", "System\\.(?!arraycopy\\()", "Math\\.(?!abs\\()", "Arrays\\.(?!fill\\()", "\\w*Exact",
        "equals", "hashCode", "toString", "static \\{", "protected", "var", "yield",
    };

    public static void main(String[] args) throws IOException {
        String source = Files.readString(FILE);
        Checks.holds("plain characters", source.chars().allMatch(c -> c == '\n' || (c >= ' ' && c <= '~')));
        String code = withoutComments(source);
        checkWords(code);
        checkImports(code);
        checkNew(code);
        checkThrows(code);
        checkLengths(source);
        checkCounts();
        Checks.end();
    }

    private static String withoutComments(String source) {
        return source.replaceAll("(?s)/\\*.*?\\*/", "").replaceAll("//[^\n]*", "");
    }

    private static void checkWords(String code) {
        for (String word : FORBIDDEN) {
            Matcher matcher = Pattern.compile("\\b" + word + "(?!\\w)").matcher(code);
            Checks.holds("rules 4 to 6: no " + word, !matcher.find());
        }
        Checks.holds("rule 2: no lambda, no reference to a method",
                !code.contains("->") && !code.contains("::"));
    }

    private static void checkImports(String code) {
        code.lines().filter(line -> line.startsWith("import")).forEach(line ->
                Checks.holds("rule 4: " + line, line.equals("import java.util.Arrays;")));
    }

    /** All room is made with the object, so that the calls of a run make nothing but exceptions. */
    private static void checkNew(String code) {
        code.lines().filter(line -> line.matches(".*\\bnew\\b.*")).forEach(line ->
                Checks.holds("rule 12: made with the object: " + line,
                        line.trim().startsWith("private final ") || line.trim().startsWith("throw new ")));
    }

    private static void checkThrows(String code) {
        List<String> rows = new ArrayList<>();
        code.lines().filter(line -> line.matches(".*\\bthrow\\b.*")).forEach(rows::add);
        Checks.due("rule 6: places that throw", rows.size(), 1);
        Checks.holds("rule 6: " + rows,
                rows.get(0).trim().matches("throw new ArithmeticException\\(\"[^\"]*\"\\);"));
    }

    /** A method ends with the brace that stands as far in as it began. */
    private static void checkLengths(String source) {
        String[] lines = source.split("\n");
        int methods = 0;
        for (int i = 0; i < lines.length; i++) {
            Matcher matcher = METHOD.matcher(lines[i]);
            if (!matcher.matches() || lines[i].trim().matches("(if|for|while|switch|else)\\b.*")) {
                continue;
            }
            methods++;
            int end = i;
            while (end < lines.length && !lines[end].equals(matcher.group(1) + "}")) {
                end++;
            }
            Checks.holds("rule 11: at most sixty lines: " + lines[i].trim(), end - i < 60);
        }
        Checks.holds("rule 11: the methods were found", methods > ConicKinds.class.getDeclaredMethods().length);
    }

    private static void checkCounts() {
        List<Class<?>> classes = new ArrayList<>(List.of(ConicKinds.class.getDeclaredClasses()));
        classes.add(ConicKinds.class);
        Checks.holds("rule 11: at most twelve classes", classes.size() <= 12);
        for (Class<?> type : classes) {
            int fields = 0;
            for (Field field : type.getDeclaredFields()) {
                fields += Modifier.isStatic(field.getModifiers()) ? 0 : 1;
            }
            Checks.holds("rule 11: at most twenty fields in " + type, fields <= 20);
        }
    }
}
