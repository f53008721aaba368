import java.lang.reflect.Constructor;
import java.lang.reflect.Field;
import java.lang.reflect.Method;
import java.lang.reflect.Modifier;
import java.nio.file.Files;
import java.nio.file.Path;
import java.util.Arrays;
import java.util.Set;
import java.util.TreeSet;

/** The public face, and rules 1 and 5 of LANGUAGE.md as far as they can be read off the class. */
public final class FaceTest {
    private static final String[] FACE = {
        "int dimension(int)",
        "long put(int, int, int)",
        "int kind()",
        "int signs(int)",
        "long determinant(int)",
        "int middles()",
        "long middle(int, int)",
        "long height(int) throws java.lang.ArithmeticException",
        "int below(int, int)",
        "int unlike()",
        "int at(int, int, int, int)",
        "long polar(int, int, int, int, int)",
        "int touches(int, int, int, int)",
        "int section(int, int, int, int)",
        "int meets(int, int, int, int, int, int)",
        "long line(int, int)",
        "int keep()",
        "int alike()",
    };

    // What the interface says ahead of some calls, with the first of these calls.
    private static final String[][] HEADINGS = {
        {"middles", "middles()"}, {"values of A", "below("}, {"points, polars", "at("},
        {"cuts", "section("}, {"another form", "keep()"},
    };

    public static void main(String[] args) throws Exception {
        Checks.holds("public and final",
                Modifier.isPublic(ConicKinds.class.getModifiers())
                && Modifier.isFinal(ConicKinds.class.getModifiers()));
        Checks.holds("no package", ConicKinds.class.getPackageName().isEmpty());
        Checks.holds("a plain class", ConicKinds.class.getSuperclass() == Object.class
                && ConicKinds.class.getInterfaces().length == 0);
        checkConstructor();
        checkMethods();
        checkFields();
        checkHeadings();
        for (Class<?> inside : ConicKinds.class.getDeclaredClasses()) {
            Checks.holds(inside + " is static and not public",
                    Modifier.isStatic(inside.getModifiers())
                    && !Modifier.isPublic(inside.getModifiers())
                    && !Modifier.isProtected(inside.getModifiers()));
        }
        Checks.end();
    }

    private static void checkConstructor() {
        Constructor<?>[] all = ConicKinds.class.getDeclaredConstructors();
        Checks.due("constructors", all.length, 1);
        Checks.holds("its constructor is public, without parameters and exceptions",
                Modifier.isPublic(all[0].getModifiers()) && all[0].getParameterCount() == 0
                && all[0].getExceptionTypes().length == 0);
    }

    private static void checkMethods() {
        Set<String> seen = new TreeSet<>();
        Set<String> names = new TreeSet<>();
        for (Method method : ConicKinds.class.getDeclaredMethods()) {
            if (Modifier.isPublic(method.getModifiers())) {
                seen.add(tell(method));
                names.add(method.getName());
                Checks.holds(method + " is no static method", !Modifier.isStatic(method.getModifiers()));
            }
        }
        Checks.holds("the public methods are those of the document: " + seen,
                seen.equals(new TreeSet<>(Arrays.asList(FACE))));
        for (Method method : ConicKinds.class.getDeclaredMethods()) {
            if (!Modifier.isPublic(method.getModifiers())) {
                Checks.holds(method + " is private and has a name of its own",
                        Modifier.isPrivate(method.getModifiers()) && !names.contains(method.getName()));
            }
            Checks.holds(method + " has at most seven parameters", method.getParameterCount() <= 7);
        }
    }

    private static String tell(Method method) {
        StringBuilder text = new StringBuilder();
        text.append(method.getReturnType().getName()).append(' ').append(method.getName()).append('(');
        for (int i = 0; i < method.getParameterCount(); i++) {
            text.append(i == 0 ? "" : ", ").append(method.getParameterTypes()[i].getName());
        }
        text.append(')');
        for (Class<?> thrown : method.getExceptionTypes()) {
            text.append(" throws ").append(thrown.getName());
        }
        return text.toString();
    }

    private static void checkFields() throws Exception {
        for (Field field : ConicKinds.class.getDeclaredFields()) {
            int modifiers = field.getModifiers();
            boolean isNothing = field.getName().equals("NOTHING");
            Checks.holds(field + " is visible as the document says",
                    isNothing ? Modifier.isPublic(modifiers) : Modifier.isPrivate(modifiers));
            Checks.holds(field + " is final where it is static",
                    !Modifier.isStatic(modifiers) || Modifier.isFinal(modifiers));
        }
        Field nothing = ConicKinds.class.getDeclaredField("NOTHING");
        Checks.holds("NOTHING is a static long",
                Modifier.isStatic(nothing.getModifiers()) && nothing.getType() == long.class);
        Checks.due("NOTHING", ConicKinds.NOTHING, Checks.NOTHING);
    }

    private static void checkHeadings() throws Exception {
        String source = Files.readString(Path.of("src/main/java/ConicKinds.java"));
        for (String[] heading : HEADINGS) {
            Checks.holds("ahead of " + heading[1] + " it says " + heading[0],
                    source.contains("    // ---- " + heading[0] + "\n\n    public int " + heading[1]));
        }
    }
}
