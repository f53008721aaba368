import java.util.Arrays;

/**
 * Every call with numbers as large and as small as an int can hold in every argument, alone and
 * together with all others at their bounds and beside them. What is due comes from the document's
 * bounds, told here once more, and from Reference.
 */
public final class IntRangeTest {
    private static final int LEAST = Integer.MIN_VALUE;
    private static final int MOST = Integer.MAX_VALUE;
    private static final long NOTHING = Checks.NOTHING;

    // With these a call is refused for its arguments alone; what it leaves is looked at elsewhere.
    private static final int[][] PLANE = {
        {-7, 1, 2, 3, 1, 5}, {0, 0, 1, 1, 0, 0}, {0, 0, 0, 2, 0, -8}, {0, 0, 0, 0, 0, 0},
        {20, -20, 20, -20, -20, 20},
    };
    private static final int[][] SPACE = {
        {-7, 1, 2, 3, 3, 1, 0, 5, 1, 4}, {0, 0, 0, 1, 1, 0, 0, 1, 0, 0}, {0, 0, 0, 0, 1, 0, 0, 1, 0, -1},
        {0, 0, 0, 0, 0, 0, 0, 0, 0, 0}, {20, 20, 20, 20, 20, -20, -20, 20, -20, 20},
    };

    private interface FormCase {
        void look(Source source, long[][] table);
    }

    /** Hands out an object with a form, and a new one before it has been used for 512 calls. */
    private static final class Source {
        private final int[] form;
        private ConicKinds conic;
        private int left = 0;

        Source(int[] form) {
            this.form = form;
        }

        ConicKinds next() {
            if (left == 0) {
                conic = Checks.make(form);
                left = 500;
            }
            left--;
            return conic;
        }
    }

    public static void main(String[] args) throws IllegalAccessException {
        Cases.run(IntRangeTest.class);
    }

    /** The ends of an int, what wraps round to small numbers, and both sides of both bounds. */
    private static int[] around(int low, int high) {
        int[] all = {
            LEAST, LEAST + 1, LEAST + high, -65536 + low, -256 + low, low - 1, low, 0, high, high + 1,
            256 + high, 65536 + high, MOST - high, MOST - 1, MOST,
        };
        return Arrays.stream(all).sorted().distinct().toArray();
    }

    private static int[] few(int low, int high) {
        return new int[] {LEAST, low - 1, low, 0, high, high + 1, MOST};
    }

    private static boolean isIn(int v, int low, int high) {
        return low <= v && v <= high;
    }

    private static void eachForm(FormCase test) {
        for (int[] m : PLANE) {
            test.look(new Source(m), Reference.table(m));
        }
        for (int[] m : SPACE) {
            test.look(new Source(m), Reference.table(m));
        }
    }

    private static long[] row(int length, int... numbers) {
        long[] row = new long[length];
        for (int i = 0; i < length; i++) {
            row[i] = numbers[i];
        }
        return row;
    }

    private static boolean isAll0(long[] row) {
        return Reference.clear(row) == null;
    }

    private static String tell(int... numbers) {
        return Arrays.toString(numbers);
    }

    static void promise02_dimension() {
        for (int d : around(2, 3)) {
            ConicKinds conic = new ConicKinds();
            Checks.due("dimension(" + d + ")", conic.dimension(d), isIn(d, 2, 3) ? 2 : -2);
            Checks.due("then dimension(3)", conic.dimension(3), d == 3 ? 3 : 2);
        }
    }

    static void promise03_put() {
        for (int d = 2; d <= 3; d++) {
            for (int i : around(0, d)) {
                for (int j : around(0, d)) {
                    ConicKinds conic = new ConicKinds();
                    conic.dimension(d);
                    for (int v : around(-20, 20)) {
                        boolean isRight = isIn(i, 0, d) && isIn(j, 0, d) && isIn(v, -20, 20);
                        Checks.due("put" + tell(i, j, v), conic.put(i, j, v), isRight ? 0 : NOTHING);
                        if (isRight) {
                            Checks.due("put" + tell(j, i, 0), conic.put(j, i, 0), v);
                        }
                    }
                    Checks.due("all is 0 again", conic.kind(), d == 2 ? 8 : 26);
                }
            }
        }
    }

    static void promise05_signs() {
        eachForm((source, t) -> {
            int[] a = Reference.signs(Reference.partA(t));
            int[] all = Reference.signs(t);
            for (int what : around(0, 3)) {
                long want = isIn(what, 0, 3) ? (what < 2 ? a : all)[what % 2] : -2;
                Checks.due("signs(" + what + ")", source.next().signs(what), want);
            }
        });
    }

    static void promise06_determinant() {
        eachForm((source, t) -> {
            for (int what : around(0, 3)) {
                if (!isIn(what, 0, 3)) {
                    Checks.due("determinant(" + what + ")", source.next().determinant(what), NOTHING);
                }
            }
            Checks.due("determinant(0)", source.next().determinant(0), Reference.determinant(Reference.partA(t)));
            Checks.due("determinant(1)", source.next().determinant(1), Reference.determinant(t));
        });
    }

    static void promise08_middle() {
        eachForm((source, t) -> {
            int d = t.length - 1;
            long[][] a = Reference.partA(t);
            for (int axis : around(1, d)) {
                for (int part : around(0, 1)) {
                    long want = NOTHING;
                    if (isIn(axis, 1, d) && isIn(part, 0, 1) && Reference.determinant(a) != 0) {
                        long[][] changed = Reference.partA(t);
                        for (int i = 1; i <= d; i++) {
                            changed[i - 1][axis - 1] = -t[i][0];
                        }
                        long[] fraction = {Reference.determinant(a), Reference.determinant(changed)};
                        want = Reference.clear(fraction)[1 - part];
                    }
                    Checks.due("middle" + tell(axis, part), source.next().middle(axis, part), want);
                }
            }
        });
    }

    static void promise09_height() {
        eachForm((source, t) -> {
            long down = Reference.determinant(Reference.partA(t));
            for (int part : around(0, 1)) {
                if (!isIn(part, 0, 1)) {
                    Checks.due("height(" + part + ")", source.next().height(part), NOTHING);
                } else if (down == 0) {
                    Checks.dueArithmetic("height(" + part + ")", () -> source.next().height(part));
                } else {
                    long[] fraction = Reference.clear(new long[] {down, Reference.determinant(t)});
                    Checks.due("height(" + part + ")", source.next().height(part), fraction[1 - part]);
                }
            }
        });
    }

    static void promise10_below() {
        eachForm((source, t) -> {
            for (int up : around(-2000, 2000)) {
                for (int down : around(1, 100)) {
                    long want = -2;
                    if (isIn(up, -2000, 2000) && isIn(down, 1, 100)) {
                        long[][] a = Reference.partA(t);
                        for (int i = 0; i < a.length; i++) {
                            for (int j = 0; j < a.length; j++) {
                                a[i][j] = down * a[i][j] - (i == j ? up : 0);
                            }
                        }
                        want = Reference.signs(a)[1];
                    }
                    Checks.due("below" + tell(up, down), source.next().below(up, down), want);
                }
            }
        });
    }

    private static boolean isPoint(int d, int x, int y, int z, int down) {
        return isIn(down, 1, 100) && isIn(x, -1000, 1000) && isIn(y, -1000, 1000)
                && (d == 2 || isIn(z, -1000, 1000));
    }

    static void promise12_at() {
        eachForm((source, t) -> {
            for (int x : around(-1000, 1000)) {
                for (int y : few(-1000, 1000)) {
                    for (int z : around(-1000, 1000)) {
                        for (int down : around(1, 100)) {
                            long[] p = row(t.length, down, x, y, z);
                            boolean isRight = isPoint(t.length - 1, x, y, z, down);
                            Checks.due("at" + tell(x, y, z, down), source.next().at(x, y, z, down),
                                    isRight ? Long.signum(Reference.product(t, p, p)) + 1 : -2);
                        }
                    }
                }
            }
        });
    }

    private static long polar(long[][] t, int i, int... point) {
        if (!isIn(i, 0, t.length - 1)) {
            return NOTHING;
        }
        long[] p = row(t.length, point);
        long[] sums = new long[t.length];
        for (int r = 0; r < t.length; r++) {
            for (int j = 0; j < t.length; j++) {
                sums[r] += t[r][j] * p[j];
            }
        }
        long[] clear = Reference.clear(sums);
        return clear == null ? NOTHING : clear[i];
    }

    static void promise13_polar() {
        eachForm((source, t) -> {
            int d = t.length - 1;
            for (int x : few(-1000, 1000)) {
                for (int y : few(-1000, 1000)) {
                    for (int z : few(-1000, 1000)) {
                        for (int down : few(1, 100)) {
                            for (int i : around(0, d)) {
                                Checks.due("polar" + tell(x, y, z, down, i), source.next().polar(x, y, z, down, i),
                                        isPoint(d, x, y, z, down) ? polar(t, i, down, x, y, z) : NOTHING);
                            }
                        }
                    }
                }
            }
        });
    }

    static void promise14_touches() {
        eachForm((source, t) -> {
            for (int u0 : around(-20, 20)) {
                for (int u1 : around(-20, 20)) {
                    for (int u2 : few(-20, 20)) {
                        for (int u3 : around(-20, 20)) {
                            Checks.due("touches" + tell(u0, u1, u2, u3), source.next().touches(u0, u1, u2, u3),
                                    touches(t, row(t.length, u0, u1, u2, u3)));
                        }
                    }
                }
            }
        });
    }

    private static long touches(long[][] t, long[] u) {
        if (!isWithin(u, 20) || isAll0(Arrays.copyOfRange(u, 1, u.length))) {
            return -2;
        }
        return Reference.determinant(t) == 0 ? -3 : Reference.touches(t, u);
    }

    private static boolean isWithin(long[] row, int bound) {
        return Arrays.stream(row).allMatch(v -> v >= -bound && v <= bound);
    }

    static void promise15_section() {
        eachForm((source, t) -> {
            for (int a : few(-10, 10)) {
                for (int b : around(-10, 10)) {
                    for (int c : few(-10, 10)) {
                        for (int e : around(-10, 10)) {
                            Checks.due("section" + tell(a, b, c, e), source.next().section(a, b, c, e),
                                    section(t, new long[] {a, b, c}, e));
                        }
                    }
                }
            }
        });
    }

    private static long section(long[][] t, long[] normal, int e) {
        if (t.length == 3) {
            return -3;
        }
        if (!isWithin(normal, 10) || !isIn(e, -10, 10) || isAll0(normal)) {
            return -2;
        }
        return Reference.section(t, normal, e);
    }

    static void promise16_meets() {
        int[] point = {LEAST, -21, -20, 20, 21, MOST};
        int[] step = {LEAST, -20, 0, 20, 21, MOST};
        eachForm((source, t) -> {
            for (int x : point) {
                for (int y : point) {
                    for (int z : point) {
                        for (int u : step) {
                            for (int v : step) {
                                for (int w : step) {
                                    Checks.due("meets" + tell(x, y, z, u, v, w),
                                            source.next().meets(x, y, z, u, v, w),
                                            meets(t, row(t.length, 1, x, y, z), row(t.length, 0, u, v, w)));
                                }
                            }
                        }
                    }
                }
            }
        });
    }

    private static long meets(long[][] t, long[] point, long[] step) {
        if (!isWithin(point, 20) || !isWithin(step, 20) || isAll0(step)) {
            return -2;
        }
        return Reference.meets(t, point, step);
    }

    static void promise17_line() {
        eachForm((source, t) -> {
            // Of the forms here only 2 x x - 8 y y has lines, 0, 1, -2 and 0, 1, 2.
            boolean hasLines = t.length == 3 && t[2][2] == -8;
            long[][] lines = {{0, 1, -2}, {0, 1, 2}};
            for (int k : around(0, 1)) {
                for (int i : around(0, 2)) {
                    boolean isRight = hasLines && isIn(k, 0, 1) && isIn(i, 0, 2);
                    Checks.due("line" + tell(k, i), source.next().line(k, i), isRight ? lines[k][i] : NOTHING);
                }
            }
        });
    }
}
