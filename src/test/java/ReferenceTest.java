import java.util.ArrayList;
import java.util.Arrays;
import java.util.HashMap;
import java.util.List;
import java.util.Map;

/** All small forms of dimension 2, and many forms of both, against Reference. */
public final class ReferenceTest {
    private static final long NOTHING = Checks.NOTHING;

    private static long seed = 20261115L;
    private static final boolean[] seenKinds = new boolean[27];
    private static final boolean[] seenSections = new boolean[10];

    public static void main(String[] args) {
        smallPlaneForms();
        smallSpaceForms();
        mixedForms(2, 4000);
        mixedForms(3, 12000);
        linesByMultiplying();
        checkSeen();
        Checks.end();
    }

    /** A row of numbers that is the same each time; low .. high. */
    private static int next(int low, int high) {
        seed = seed * 6364136223846793005L + 1442695040888963407L;
        return low + (int) ((seed >>> 33) % (high - low + 1));
    }

    private static void smallPlaneForms() {
        int[] m = new int[6];
        for (int code = 0; code < 15625; code++) {
            int rest = code;
            for (int i = 0; i < 6; i++) {
                m[i] = rest % 5 - 2;
                rest /= 5;
            }
            checkForm(2, m);
        }
    }

    private static void smallSpaceForms() {
        int[] m = new int[10];
        for (int code = 0; code < 59049; code += 5) {
            int rest = code;
            for (int i = 0; i < 10; i++) {
                m[i] = rest % 3 - 1;
                rest /= 3;
            }
            checkForm(3, m);
        }
    }

    /** Full range, sparse, and sums of a few squares of rows, which bring the singular kinds. */
    private static void mixedForms(int d, int count) {
        int numbers = (d + 1) * (d + 2) / 2;
        for (int n = 0; n < count; n++) {
            int[] m = new int[numbers];
            if (n % 3 == 2) {
                m = sumOfSquares(d, next(1, 3), next(1, 2));
            }
            for (int i = 0; i < numbers && n % 3 != 2; i++) {
                m[i] = n % 3 == 0 || next(0, 2) == 0 ? next(-20, 20) : 0;
            }
            checkForm(d, m);
        }
    }

    private static int[] sumOfSquares(int d, int squares, int size) {
        int[] m = new int[(d + 1) * (d + 2) / 2];
        for (int s = 0; s < squares; s++) {
            int factor = next(0, 1) == 0 ? 1 : -1;
            int[] row = new int[d + 1];
            for (int i = 0; i <= d; i++) {
                row[i] = next(-size, size);
            }
            int k = 0;
            for (int i = 0; i <= d; i++) {
                for (int j = i; j <= d; j++) {
                    m[k++] += factor * row[i] * row[j];
                }
            }
        }
        return m;
    }

    private static void checkForm(int d, int[] m) {
        ConicKinds conic = Checks.make(m);
        long[][] t = Reference.table(m);
        String name = Arrays.toString(m) + " ";
        int kind = Reference.kind(t);
        seenKinds[kind] = true;
        Checks.due(name + "kind", conic.kind(), kind);
        Checks.due(name + "keep", conic.keep(), kind);
        int[] a = Reference.signs(Reference.partA(t));
        int[] all = Reference.signs(t);
        Checks.due(name + "signs(0)", conic.signs(0), a[0]);
        Checks.due(name + "signs(1)", conic.signs(1), a[1]);
        Checks.due(name + "signs(2)", conic.signs(2), all[0]);
        Checks.due(name + "signs(3)", conic.signs(3), all[1]);
        checkDeterminants(name, conic, t);
        checkMiddles(name, conic, t);
        Checks.due(name + "unlike", conic.unlike(), Reference.unlike(Reference.partA(t)));
        for (int n = 0; n < 4; n++) {
            checkBelow(name, conic, t);
            checkPoint(name, conic, t);
            checkTouches(name, conic, t);
            checkMeets(name, conic, t);
            checkSection(name, conic, t);
        }
        checkAlike(name, conic, d, m);
    }

    private static void checkDeterminants(String name, ConicKinds conic, long[][] t) {
        int d = t.length - 1;
        long sum = 0;
        long pairs = 0;
        for (int i = 1; i <= d; i++) {
            sum += t[i][i];
            for (int j = i + 1; j <= d; j++) {
                pairs += t[i][i] * t[j][j] - t[i][j] * t[i][j];
            }
        }
        Checks.due(name + "determinant(0)", conic.determinant(0), Reference.determinant(Reference.partA(t)));
        Checks.due(name + "determinant(1)", conic.determinant(1), Reference.determinant(t));
        Checks.due(name + "determinant(2)", conic.determinant(2), sum);
        Checks.due(name + "determinant(3)", conic.determinant(3), pairs);
    }

    private static void checkMiddles(String name, ConicKinds conic, long[][] t) {
        int d = t.length - 1;
        int middles = Reference.middles(t);
        Checks.due(name + "middles", conic.middles(), middles);
        if (middles != 0) {
            for (int axis = 1; axis <= d; axis++) {
                Checks.due(name + "middle", conic.middle(axis, 0), NOTHING);
                Checks.due(name + "middle", conic.middle(axis, 1), NOTHING);
            }
            Checks.dueArithmetic(name + "height", () -> conic.height(0));
            return;
        }
        long down = Reference.determinant(Reference.partA(t));
        for (int axis = 1; axis <= d; axis++) {
            // Cramer: the column of the axis gives way to what stands on the right.
            long[][] changed = Reference.partA(t);
            for (int i = 1; i <= d; i++) {
                changed[i - 1][axis - 1] = -t[i][0];
            }
            dueFraction(name + "middle " + axis, Reference.determinant(changed), down,
                    conic.middle(axis, 0), conic.middle(axis, 1));
        }
        dueFraction(name + "height", Reference.determinant(t), down, conic.height(0), conic.height(1));
        checkHeightAtMiddle(name, conic, t);
    }

    private static void dueFraction(String name, long up, long down, long gotUp, long gotDown) {
        long[] row = Reference.clear(new long[] {down, up});
        Checks.due(name + " above", gotUp, row[1]);
        Checks.due(name + " below", gotDown, row[0]);
    }

    private static void checkHeightAtMiddle(String name, ConicKinds conic, long[][] t) {
        double value = t[0][0];
        for (int i = 1; i < t.length; i++) {
            value += (double) t[i][0] * conic.middle(i, 0) / conic.middle(i, 1);
        }
        double height = (double) conic.height(0) / conic.height(1);
        Checks.holds(name + "height is the form at the middle",
                Math.abs(value - height) <= 1e-6 * (1 + Math.abs(height) + 20 * Math.abs(value)));
    }

    private static void checkBelow(String name, ConicKinds conic, long[][] t) {
        int down = next(0, 3) == 0 ? next(1, 100) : next(1, 3);
        int up = next(0, 3) == 0 ? next(-2000, 2000) : next(-25, 25) * down;
        long[][] a = Reference.partA(t);
        for (int i = 0; i < a.length; i++) {
            for (int j = 0; j < a.length; j++) {
                a[i][j] = a[i][j] * down - (i == j ? up : 0);
            }
        }
        Checks.due(name + "below " + up + " / " + down,
                conic.below(up, down), (up < -2000 || up > 2000) ? -2 : Reference.signs(a)[1]);
    }

    private static void checkPoint(String name, ConicKinds conic, long[][] t) {
        int size = next(0, 2) == 0 ? 1000 : 3;
        int x = next(-size, size);
        int y = next(-size, size);
        int z = next(-size, size);
        int down = next(0, 2) == 0 ? next(1, 100) : next(1, 2);
        long[] p = Arrays.copyOf(new long[] {down, x, y, z}, t.length);
        Checks.due(name + "at", conic.at(x, y, z, down), Long.signum(Reference.product(t, p, p)) + 1);
        long[] row = new long[t.length];
        for (int i = 0; i < t.length; i++) {
            for (int j = 0; j < t.length; j++) {
                row[i] += t[i][j] * p[j];
            }
        }
        long[] clear = Reference.clear(row);
        for (int i = 0; i < t.length; i++) {
            Checks.due(name + "polar", conic.polar(x, y, z, down, i), clear == null ? NOTHING : clear[i]);
        }
        Checks.due(name + "polar", conic.polar(x, y, z, down, t.length), NOTHING);
    }

    private static void checkTouches(String name, ConicKinds conic, long[][] t) {
        int size = next(0, 2) == 0 ? 20 : 2;
        int[] u = {next(-size, size), next(-size, size), next(-size, size), next(-size, size)};
        long[] row = Arrays.copyOf(new long[] {u[0], u[1], u[2], u[3]}, t.length);
        long[] tail = Arrays.copyOfRange(row, 1, row.length);
        long want = -2;
        if (Reference.clear(tail) != null) {
            want = Reference.determinant(t) == 0 ? -3 : Reference.touches(t, row);
        }
        Checks.due(name + "touches " + Arrays.toString(u), conic.touches(u[0], u[1], u[2], u[3]), want);
    }

    private static void checkMeets(String name, ConicKinds conic, long[][] t) {
        int size = next(0, 2) == 0 ? 20 : 2;
        int[] p = {next(-size, size), next(-size, size), next(-size, size)};
        int[] s = {next(-size, size), next(-size, size), next(-size, size)};
        long[] point = Arrays.copyOf(new long[] {1, p[0], p[1], p[2]}, t.length);
        long[] step = Arrays.copyOf(new long[] {0, s[0], s[1], s[2]}, t.length);
        long want = Reference.clear(step) == null ? -2 : Reference.meets(t, point, step);
        Checks.due(name + "meets " + Arrays.toString(p) + Arrays.toString(s),
                conic.meets(p[0], p[1], p[2], s[0], s[1], s[2]), want);
    }

    private static void checkSection(String name, ConicKinds conic, long[][] t) {
        int size = next(0, 2) == 0 ? 10 : 1;
        int[] n = {next(-size, size), next(-size, size), next(-size, size)};
        int e = next(-size, size);
        long want = -3;
        if (t.length == 4) {
            long[] normal = {n[0], n[1], n[2]};
            want = Reference.clear(normal) == null ? -2 : Reference.section(t, normal, e);
        }
        if (want >= 0) {
            seenSections[(int) want] = true;
        }
        Checks.due(name + "section " + Arrays.toString(n) + " " + e,
                conic.section(n[0], n[1], n[2], e), want);
    }

    private static void checkAlike(String name, ConicKinds conic, int d, int[] m) {
        Checks.due(name + "alike itself", conic.alike(), 1);
        boolean isZero = Arrays.equals(m, new int[m.length]);
        int[] turned = new int[m.length];
        for (int i = 0; i < m.length; i++) {
            turned[i] = -m[i];
        }
        Checks.fill(conic, d, turned);
        Checks.due(name + "alike its negative", conic.alike(), 1);
        int k = next(0, m.length - 1);
        turned[k] += turned[k] == 20 ? -1 : 1;
        boolean alone = true;
        for (int i = 0; i < m.length; i++) {
            alone &= i == k || m[i] == 0;
        }
        Checks.fill(conic, d, turned);
        long want = !isZero && alone && m[k] != 0 && turned[k] != 0 ? 1 : 0;
        Checks.due(name + "alike, one changed", conic.alike(), want);
    }

    /**
     * All products of two rows with numbers to 4, which are all that a form with numbers to 2 can
     * fall into: each place of the one times that of the other is at most 2, or the other's is 0
     * there and the crosswise product at most 4.
     */
    private static void linesByMultiplying() {
        List<long[]> rows = clearRows(4);
        Map<String, long[][]> pairs = new HashMap<>();
        for (int i = 0; i < rows.size(); i++) {
            for (int j = i; j < rows.size(); j++) {
                pairs.put(key(multiply(rows.get(i), rows.get(j))), new long[][] {rows.get(i), rows.get(j)});
            }
        }
        for (int code = 0; code < 15625; code++) {
            int rest = code;
            int[] m = new int[6];
            for (int i = 0; i < 6; i++) {
                m[i] = rest % 5 - 2;
                rest /= 5;
            }
            checkLines(m, pairs);
        }
        for (long[][] pair : pairs.values()) {
            int[] m = asForm(multiply(pair[0], pair[1]));
            if (m != null) {
                checkLines(m, pairs);
            }
        }
    }

    /** In the order in which lines are told, apart from the row 1, 0, 0, that has no points. */
    private static List<long[]> clearRows(int size) {
        List<long[]> rows = new ArrayList<>();
        for (int a = -size; a <= size; a++) {
            for (int b = -size; b <= size; b++) {
                for (int c = -size; c <= size; c++) {
                    long[] row = {a, b, c};
                    if ((b != 0 || c != 0) && Arrays.equals(row, Reference.clear(row))) {
                        rows.add(row);
                    }
                }
            }
        }
        return rows;
    }

    /** The product's coefficients, of 1, x, y, x x, x y, y y. */
    private static long[] multiply(long[] u, long[] v) {
        return new long[] {u[0] * v[0], u[0] * v[1] + u[1] * v[0], u[0] * v[2] + u[2] * v[0],
            u[1] * v[1], u[1] * v[2] + u[2] * v[1], u[2] * v[2]};
    }

    private static String key(long[] coefficients) {
        return Arrays.toString(Reference.clear(coefficients));
    }

    /** Twice the product, so that what stands beside the squares can be halved; null if too great. */
    private static int[] asForm(long[] c) {
        int[] m = {(int) (2 * c[0]), (int) c[1], (int) c[2], (int) (2 * c[3]), (int) c[4], (int) (2 * c[5])};
        for (int v : m) {
            if (v < -20 || v > 20) {
                return null;
            }
        }
        return m;
    }

    private static void checkLines(int[] m, Map<String, long[][]> pairs) {
        ConicKinds conic = Checks.plane(m);
        int kind = conic.kind();
        long[][] want = {};
        if (kind == 7) {
            want = new long[][] {Reference.clear(new long[] {m[0], 2 * m[1], 2 * m[2]})};
        } else if (kind == 5 || kind == 6 || kind == 9) {
            long[][] pair = pairs.get(key(new long[] {m[0], 2 * m[1], 2 * m[2], m[3], 2 * m[4], m[5]}));
            want = pair == null ? want : kind == 9 ? new long[][] {pair[0]} : pair;
        }
        for (int k = -1; k <= 3; k++) {
            for (int i = -1; i <= 3; i++) {
                boolean isThere = k >= 0 && k < want.length && i >= 0 && i < 3;
                Checks.due(Arrays.toString(m) + " line(" + k + ", " + i + ")",
                        conic.line(k, i), isThere ? want[k][i] : NOTHING);
            }
        }
    }

    private static void checkSeen() {
        for (int kind = 0; kind < seenKinds.length; kind++) {
            Checks.holds("the forms looked at have kind " + kind, seenKinds[kind]);
        }
        for (int kind = 0; kind < seenSections.length; kind++) {
            Checks.holds("the sections looked at have kind " + kind, seenSections[kind]);
        }
    }
}
