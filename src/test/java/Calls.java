import java.lang.reflect.InvocationTargetException;
import java.lang.reflect.Method;
import java.util.HashMap;
import java.util.Map;
import java.util.StringJoiner;

/** The calls of the face by their names, for runs that are told as text or drawn from numbers. */
final class Calls {
    /** Stands among the answers for an ArithmeticException; no call answers it. */
    static final long THROWN = Long.MIN_VALUE;

    private static final Map<Class<?>, Map<String, Method>> METHODS = new HashMap<>();

    private Calls() {
    }

    /** Asks a ConicKinds, or anything else that has methods of these names. */
    static long ask(Object target, String name, int... numbers) {
        Object[] boxed = new Object[numbers.length];
        for (int i = 0; i < numbers.length; i++) {
            boxed[i] = numbers[i];
        }
        try {
            return ((Number) method(target.getClass(), name).invoke(target, boxed)).longValue();
        } catch (InvocationTargetException e) {
            if (e.getCause().getClass() == ArithmeticException.class && name.equals("height")) {
                return THROWN;
            }
            throw new IllegalStateException(tell(name, numbers), e.getCause());
        } catch (IllegalAccessException e) {
            throw new IllegalStateException(tell(name, numbers), e);
        }
    }

    private static Method method(Class<?> type, String name) {
        Method method = METHODS.computeIfAbsent(type, Calls::methodsOf).get(name);
        if (method == null) {
            throw new IllegalArgumentException(type + " has no call " + name);
        }
        return method;
    }

    private static Map<String, Method> methodsOf(Class<?> type) {
        Map<String, Method> methods = new HashMap<>();
        for (Method method : type.getDeclaredMethods()) {
            methods.put(method.getName(), method);
        }
        return methods;
    }

    /** A call as it is written, such as put(1, 1, -4). */
    static long askText(Object target, String call) {
        int open = call.indexOf('(');
        if (open < 0 || !call.endsWith(")")) {
            throw new IllegalArgumentException("no call: " + call);
        }
        String inside = call.substring(open + 1, call.length() - 1).trim();
        String[] words = inside.isEmpty() ? new String[0] : inside.split(", *");
        int[] numbers = new int[words.length];
        for (int i = 0; i < words.length; i++) {
            numbers[i] = Integer.parseInt(words[i]);
        }
        return ask(target, call.substring(0, open), numbers);
    }

    /** An answer as it is written: a number, NOTHING, or throws.ArithmeticException. */
    static long answerOf(String text) {
        switch (text) {
            case "NOTHING": return Checks.NOTHING;
            case "throws.ArithmeticException": return THROWN;
            default: return Long.parseLong(text);
        }
    }

    static String tell(String name, int... numbers) {
        StringJoiner text = new StringJoiner(", ", name + "(", ")");
        for (int number : numbers) {
            text.add(Integer.toString(number));
        }
        return text.toString();
    }
}
