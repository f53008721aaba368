import java.util.Arrays;

/**
 * The document told once more, call by call and plainly, with no regard to room or speed; what is
 * hard to find is found by Reference. Its methods bear the names of the face.
 */
final class Model {
    private static final long NOTHING = Checks.NOTHING;

    private int d = 2;
    private long[][] m = new long[3][3];
    private long[][] kept = null;

    int size() {
        return d;
    }

    long number(int i, int j) {
        return m[i][j];
    }

    boolean hasKept() {
        return kept != null;
    }

    long keptNumber(int i, int j) {
        return kept[i][j];
    }

    private static boolean within(long low, long high, long... numbers) {
        for (long v : numbers) {
            if (v < low || v > high) {
                return false;
            }
        }
        return true;
    }

    private static boolean allZero(long... numbers) {
        return within(0, 0, numbers);
    }

    /** The numbers that count with this dimension: number 0 and those of its axes. */
    private long[] row(long v0, long v1, long v2, long v3) {
        return Arrays.copyOf(new long[] {v0, v1, v2, v3}, d + 1);
    }

    private static long[] tail(long[] row) {
        return Arrays.copyOfRange(row, 1, row.length);
    }

    long dimension(int to) {
        if (!within(2, 3, to)) {
            return -2;
        }
        int was = d;
        d = to;
        m = new long[d + 1][d + 1];
        kept = null;
        return was;
    }

    long put(int i, int j, int v) {
        if (!within(0, d, i, j) || !within(-20, 20, v)) {
            return NOTHING;
        }
        long was = m[i][j];
        m[i][j] = v;
        m[j][i] = v;
        return was;
    }

    long kind() {
        return Reference.kind(m);
    }

    long signs(int what) {
        if (!within(0, 3, what)) {
            return -2;
        }
        return Reference.signs(what <= 1 ? Reference.partA(m) : m)[what % 2];
    }

    long determinant(int what) {
        switch (what) {
            case 0: return Reference.determinant(Reference.partA(m));
            case 1: return Reference.determinant(m);
            case 2: return sumOfSquares();
            case 3: return sumOfPairs();
            default: return NOTHING;
        }
    }

    private long sumOfSquares() {
        long sum = 0;
        for (int i = 1; i <= d; i++) {
            sum += m[i][i];
        }
        return sum;
    }

    private long sumOfPairs() {
        long sum = 0;
        for (int i = 1; i <= d; i++) {
            for (int j = i + 1; j <= d; j++) {
                sum += m[i][i] * m[j][j] - m[i][j] * m[i][j];
            }
        }
        return sum;
    }

    long middles() {
        return Reference.middles(m);
    }

    /** Cramer: the column of the axis gives way to what stands on the right. */
    long middle(int axis, int part) {
        if (!within(1, d, axis) || !within(0, 1, part) || middles() != 0) {
            return NOTHING;
        }
        long[][] changed = Reference.partA(m);
        for (int i = 1; i <= d; i++) {
            changed[i - 1][axis - 1] = -m[i][0];
        }
        return fraction(Reference.determinant(changed), determinant(0), part);
    }

    long height(int part) {
        if (!within(0, 1, part)) {
            return NOTHING;
        }
        if (determinant(0) == 0) {
            throw new ArithmeticException("the determinant of A is 0");
        }
        return fraction(determinant(1), determinant(0), part);
    }

    /** What is below comes first in the row, so that it is the one that is above 0. */
    private static long fraction(long up, long down, int part) {
        return Reference.clear(new long[] {down, up})[1 - part];
    }

    long below(int up, int down) {
        if (!within(-2000, 2000, up) || !within(1, 100, down)) {
            return -2;
        }
        long[][] a = Reference.partA(m);
        for (int i = 0; i < d; i++) {
            for (int j = 0; j < d; j++) {
                a[i][j] = a[i][j] * down - (i == j ? up : 0);
            }
        }
        return Reference.signs(a)[1];
    }

    long unlike() {
        return Reference.unlike(Reference.partA(m));
    }

    private boolean isPoint(long[] p) {
        return within(1, 100, p[0]) && within(-1000, 1000, tail(p));
    }

    long at(int x, int y, int z, int down) {
        long[] p = row(down, x, y, z);
        return isPoint(p) ? Long.signum(Reference.product(m, p, p)) + 1 : -2;
    }

    long polar(int x, int y, int z, int down, int i) {
        long[] p = row(down, x, y, z);
        if (!within(0, d, i) || !isPoint(p)) {
            return NOTHING;
        }
        long[] sums = new long[d + 1];
        for (int k = 0; k <= d; k++) {
            for (int j = 0; j <= d; j++) {
                sums[k] += m[k][j] * p[j];
            }
        }
        return allZero(sums) ? NOTHING : Reference.clear(sums)[i];
    }

    long touches(int u0, int u1, int u2, int u3) {
        long[] u = row(u0, u1, u2, u3);
        if (!within(-20, 20, u) || allZero(tail(u))) {
            return -2;
        }
        return determinant(1) == 0 ? -3 : Reference.touches(m, u);
    }

    long section(int a, int b, int c, int e) {
        if (d == 2) {
            return -3;
        }
        if (!within(-10, 10, a, b, c, e) || allZero(a, b, c)) {
            return -2;
        }
        return Reference.section(m, new long[] {a, b, c}, e);
    }

    long meets(int x, int y, int z, int u, int v, int w) {
        long[] p = row(1, x, y, z);
        long[] step = row(0, u, v, w);
        if (!within(-20, 20, p) || !within(-20, 20, step) || allZero(step)) {
            return -2;
        }
        return Reference.meets(m, p, step);
    }

    long line(int k, int i) {
        if (d == 3 || !within(0, 2, i)) {
            return NOTHING;
        }
        long[][] lines = Reference.lines(m);
        return within(0, lines.length - 1, k) ? lines[k][i] : NOTHING;
    }

    long keep() {
        kept = new long[d + 1][];
        for (int i = 0; i <= d; i++) {
            kept[i] = m[i].clone();
        }
        return kind();
    }

    /** Neither or both all 0, and as rows of numbers not independent of each other. */
    long alike() {
        if (kept == null) {
            return -3;
        }
        long[] now = Reference.flat(m);
        long[] then = Reference.flat(kept);
        return allZero(now) == allZero(then) && Reference.rank(new long[][] {now, then}) <= 1 ? 1 : 0;
    }
}
