import java.util.Arrays;

/**
 * Every call with numbers as large and as small as an int can hold in every argument, alone and
 * together with all others at their bounds and beside them.
 */
public final class IntRangeTest {
    private static final int LEAST = Integer.MIN_VALUE;
    private static final int MOST = Integer.MAX_VALUE;

    private static final int[][] FORMS = {
        {-7, 1, 2, 3, 1, 5}, {0, 0, 1, 1, 0, 0}, {0, 0, 0, 2, 0, -8}, {0, 0, 0, 0, 0, 0},
        {20, -20, 20, -20, -20, 20},
        {-7, 1, 2, 3, 3, 1, 0, 5, 1, 4}, {0, 0, 0, 1, 1, 0, 0, 1, 0, 0}, {0, 0, 0, 0, 1, 0, 0, 1, 0, -1},
        {0, 0, 0, 0, 0, 0, 0, 0, 0, 0}, {20, 20, 20, 20, 20, -20, -20, 20, -20, 20},
    };

    public static void main(String[] args) throws IllegalAccessException {
        Cases.run(IntRangeTest.class);
    }

    /** The ends of an int, what wraps round to small numbers, and both sides of both bounds. */
    private static int[] around(int low, int high) {
        int[] all = {
            LEAST, LEAST + 1, LEAST + high, -65536 + low, -256 + low, low - 1, low, 0, high, high + 1,
            256 + high, 65536 + high, MOST - high, MOST - 1, MOST,
        };
        return Arrays.stream(all).sorted().distinct().toArray();
    }

    private static int[] few(int low, int high) {
        return new int[] {LEAST, low - 1, low, 0, high, high + 1, MOST};
    }

    /** All places of both dimensions, and those beside them. */
    private static int[] places() {
        return new int[] {LEAST, LEAST + 3, -256, -1, 0, 1, 2, 3, 4, 256, 65536, MOST - 3, MOST};
    }

    /** Asks the call, with each form, with all that can be chosen: one number from each row. */
    private static void askAll(String call, int[]... choices) {
        for (int[] form : FORMS) {
            Twin twin = Twin.with(form);
            for (int code = 0; code < countAll(choices); code++) {
                if (twin.isDone()) {
                    twin = Twin.with(form);
                }
                twin.ask(call, choose(choices, code));
            }
        }
    }

    private static int countAll(int[][] choices) {
        int count = 1;
        for (int[] row : choices) {
            count *= row.length;
        }
        return count;
    }

    private static int[] choose(int[][] choices, int code) {
        int[] numbers = new int[choices.length];
        int rest = code;
        for (int i = choices.length - 1; i >= 0; i--) {
            numbers[i] = choices[i][rest % choices[i].length];
            rest /= choices[i].length;
        }
        return numbers;
    }

    static void promise02_dimension() {
        askAll("dimension", around(2, 3));
    }

    static void promise03_put() {
        askAll("put", places(), places(), around(-20, 20));
    }

    static void promise05_signs() {
        askAll("signs", places());
    }

    static void promise06_determinant() {
        askAll("determinant", places());
    }

    static void promise08_middle() {
        askAll("middle", places(), places());
    }

    static void promise09_height() {
        askAll("height", places());
    }

    static void promise10_below() {
        askAll("below", around(-2000, 2000), around(1, 100));
    }

    static void promise12_at() {
        askAll("at", around(-1000, 1000), few(-1000, 1000), around(-1000, 1000), around(1, 100));
    }

    static void promise13_polar() {
        askAll("polar", few(-1000, 1000), few(-1000, 1000), few(-1000, 1000), few(1, 100), places());
    }

    static void promise14_touches() {
        askAll("touches", around(-20, 20), around(-20, 20), few(-20, 20), around(-20, 20));
    }

    static void promise15_section() {
        askAll("section", few(-10, 10), around(-10, 10), few(-10, 10), around(-10, 10));
    }

    static void promise16_meets() {
        int[] point = {LEAST, -21, -20, 20, 21, MOST};
        int[] step = {LEAST, -20, 0, 20, 21, MOST};
        askAll("meets", point, point, point, step, step, step);
    }

    static void promise17_line() {
        askAll("line", places(), places());
    }
}
