import java.util.function.LongSupplier;

/** What all tests of the project share: counting wrong answers, and making forms. */
final class Checks {
    static final long NOTHING = -1000000000000000000L;

    private static int wrong = 0;
    private static int done = 0;
    private static String inCase = "";

    private Checks() {
    }

    static void due(String what, long got, long want) {
        done++;
        if (got != want) {
            wrong++;
            if (wrong <= 50) {
                System.out.println(inCase + what + " answered " + got + ", due is " + want);
            }
        }
    }

    /** From now on wrong answers are told with this name before them. */
    static void begin(String name) {
        inCase = name + ": ";
    }

    static int countDone() {
        return done;
    }

    static void holds(String what, boolean truth) {
        due(what, truth ? 1 : 0, 1);
    }

    static void dueArithmetic(String what, LongSupplier call) {
        boolean thrown = false;
        try {
            call.getAsLong();
        } catch (ArithmeticException e) {
            thrown = e.getClass() == ArithmeticException.class;
        }
        holds(what + " throws ArithmeticException", thrown);
    }

    /** Ends the test, with exit code 1 if an answer was wrong. */
    static void end() {
        System.out.println(done + " answers looked at, " + wrong + " wrong");
        if (wrong != 0 || done == 0) {
            System.exit(1);
        }
    }

    /** Numbers of m in the order 00, 01, .., 0d, 11, .., 1d, .., dd. */
    static void fill(ConicKinds conic, int d, int... m) {
        int k = 0;
        for (int i = 0; i <= d; i++) {
            for (int j = i; j <= d; j++) {
                conic.put(i, j, m[k++]);
            }
        }
        if (k != m.length) {
            throw new IllegalArgumentException("a form of " + m.length + " numbers");
        }
    }

    /** Of d = 2 with six numbers, of d = 3 with ten. */
    static ConicKinds make(int... m) {
        return m.length == 6 ? plane(m) : space(m);
    }

    static ConicKinds plane(int... m) {
        ConicKinds conic = new ConicKinds();
        fill(conic, 2, m);
        return conic;
    }

    static ConicKinds space(int... m) {
        ConicKinds conic = new ConicKinds();
        conic.dimension(3);
        fill(conic, 3, m);
        return conic;
    }

    /** Reads the table by putting and putting back, as put is the only call that tells it. */
    static int[][] read(ConicKinds conic, int d) {
        int[][] m = new int[d + 1][d + 1];
        for (int i = 0; i <= d; i++) {
            for (int j = 0; j <= d; j++) {
                m[i][j] = (int) conic.put(i, j, 0);
                conic.put(i, j, m[i][j]);
            }
        }
        return m;
    }
}
