import java.lang.reflect.InvocationTargetException;
import java.lang.reflect.Method;
import java.util.Arrays;
import java.util.Comparator;

/**
 * Runs the cases of a test. A case is a static method without parameters whose name begins with
 * the promise's number or with terms, so that a wrong answer tells which sentence is broken.
 */
final class Cases {
    private Cases() {
    }

    static void run(Class<?> test) throws IllegalAccessException {
        Method[] methods = test.getDeclaredMethods();
        Arrays.sort(methods, Comparator.comparing(Method::getName));
        int cases = 0;
        for (Method method : methods) {
            if (method.getName().matches("(promise\\d\\d|terms)_.*")) {
                cases++;
                runCase(method);
            }
        }
        System.out.println(cases + " cases");
        Checks.end();
    }

    private static void runCase(Method method) throws IllegalAccessException {
        Checks.begin(method.getName());
        int before = Checks.countDone();
        try {
            method.invoke(null);
        } catch (InvocationTargetException e) {
            Checks.holds("no " + e.getCause() + " is thrown", false);
        }
        Checks.holds("the case looks at something", Checks.countDone() > before);
    }
}
