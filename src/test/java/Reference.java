import java.math.BigInteger;
import java.util.Arrays;

/** The same answers found in other ways, with numbers of any length, for Model. */
final class Reference {
    // The table of the document, word for word.
    private static final String PLANE =
            "2,0 / 3,0: 0; 2,0 / 2,0: 1; 2,0 / 2,1: 2; 1,1 / 2,1: 3; 1,1 / 1,1: 5; 1,0 / 2,1: 4; "
            + "1,0 / 1,1: 6; 1,0 / 2,0: 0; 1,0 / 1,0: 9; 0,0 / 1,1: 7; 0,0 / 1,0: 0; 0,0 / 0,0: 8.";
    private static final String SPACE =
            "3,0 / 4,0: 10; 3,0 / 3,0: 11; 3,0 / 3,1: 12; 2,1 / 2,2: 13; 2,1 / 3,1: 14; "
            + "2,1 / 2,1: 17; 2,0 / 3,1: 15; 2,0 / 2,1: 18; 2,0 / 3,0: 10; 2,0 / 2,0: 21; "
            + "1,1 / 2,2: 16; 1,1 / 2,1: 19; 1,1 / 1,1: 22; 1,0 / 2,1: 20; 1,0 / 1,1: 23; "
            + "1,0 / 2,0: 10; 1,0 / 1,0: 25; 0,0 / 1,1: 24; 0,0 / 1,0: 10; 0,0 / 0,0: 26.";

    private Reference() {
    }

    /** The table of a form whose numbers are told as 00, 01, .., 0d, 11, .., dd. */
    static long[][] table(int[] m) {
        int d = m.length == 6 ? 2 : 3;
        long[][] t = new long[d + 1][d + 1];
        int k = 0;
        for (int i = 0; i <= d; i++) {
            for (int j = i; j <= d; j++) {
                t[i][j] = m[k];
                t[j][i] = m[k++];
            }
        }
        return t;
    }

    static BigInteger[][] big(long[][] m) {
        BigInteger[][] b = new BigInteger[m.length][m.length];
        for (int i = 0; i < m.length; i++) {
            for (int j = 0; j < m.length; j++) {
                b[i][j] = BigInteger.valueOf(m[i][j]);
            }
        }
        return b;
    }

    static long[][] partA(long[][] m) {
        long[][] a = new long[m.length - 1][m.length - 1];
        for (int i = 1; i < m.length; i++) {
            System.arraycopy(m[i], 1, a[i - 1], 0, m.length - 1);
        }
        return a;
    }

    /** How many above, how many below 0, by completing squares. */
    static int[] signs(long[][] table) {
        int[] counts = new int[2];
        BigInteger[][] m = big(table);
        while (m.length > 0) {
            int pivot = diagonalPivot(m);
            if (pivot < 0) {
                break;
            }
            counts[m[pivot][pivot].signum() > 0 ? 0 : 1]++;
            m = reduce(m, pivot);
        }
        return counts;
    }

    /** A place with a square in it, made from a product if there are only such; -1 if all is 0. */
    private static int diagonalPivot(BigInteger[][] m) {
        for (int i = 0; i < m.length; i++) {
            if (m[i][i].signum() != 0) {
                return i;
            }
        }
        for (int i = 0; i < m.length; i++) {
            for (int j = 0; j < m.length; j++) {
                if (m[i][j].signum() != 0) {
                    for (int k = 0; k < m.length; k++) {
                        m[i][k] = m[i][k].add(m[j][k]);
                    }
                    for (int k = 0; k < m.length; k++) {
                        m[k][i] = m[k][i].add(m[k][j]);
                    }
                    return i;
                }
            }
        }
        return -1;
    }

    private static BigInteger[][] reduce(BigInteger[][] m, int pivot) {
        BigInteger[][] rest = new BigInteger[m.length - 1][m.length - 1];
        BigInteger lead = m[pivot][pivot];
        for (int i = 0; i < rest.length; i++) {
            for (int j = 0; j < rest.length; j++) {
                int r = i < pivot ? i : i + 1;
                int c = j < pivot ? j : j + 1;
                BigInteger v = lead.multiply(m[r][c]).subtract(m[r][pivot].multiply(m[pivot][c]));
                rest[i][j] = lead.signum() < 0 ? v.negate() : v;
            }
        }
        return rest;
    }

    static int kind(long[][] m) {
        int[] a = signs(partA(m));
        int[] all = signs(m);
        if (a[1] > a[0] || (a[1] == a[0] && all[1] > all[0])) {
            a = new int[] {a[1], a[0]};
            all = new int[] {all[1], all[0]};
        }
        String key = a[0] + "," + a[1] + " / " + all[0] + "," + all[1] + ": ";
        String text = m.length == 3 ? PLANE : SPACE;
        int from = text.indexOf(key);
        if (from < 0) {
            throw new IllegalStateException("the document has no row for " + key);
        }
        from += key.length();
        int to = from;
        while (Character.isDigit(text.charAt(to))) {
            to++;
        }
        return Integer.parseInt(text.substring(from, to));
    }

    /** By the first row. */
    static BigInteger determinant(BigInteger[][] m) {
        if (m.length == 0) {
            return BigInteger.ONE;
        }
        BigInteger sum = BigInteger.ZERO;
        for (int c = 0; c < m.length; c++) {
            BigInteger[][] rest = new BigInteger[m.length - 1][m.length - 1];
            for (int i = 1; i < m.length; i++) {
                for (int j = 0; j < rest.length; j++) {
                    rest[i - 1][j] = m[i][j < c ? j : j + 1];
                }
            }
            BigInteger term = m[0][c].multiply(determinant(rest));
            sum = c % 2 == 0 ? sum.add(term) : sum.subtract(term);
        }
        return sum;
    }

    static long determinant(long[][] m) {
        return determinant(big(m)).longValueExact();
    }

    /** By rows, for a table of any shape. */
    static int rank(long[][] table) {
        int columns = table[0].length;
        BigInteger[][] m = new BigInteger[table.length][columns];
        for (int i = 0; i < table.length; i++) {
            for (int j = 0; j < columns; j++) {
                m[i][j] = BigInteger.valueOf(table[i][j]);
            }
        }
        int rank = 0;
        for (int c = 0; c < columns && rank < m.length; c++) {
            int p = rank;
            while (p < m.length && m[p][c].signum() == 0) {
                p++;
            }
            if (p == m.length) {
                continue;
            }
            BigInteger[] swap = m[p];
            m[p] = m[rank];
            m[rank] = swap;
            for (int i = rank + 1; i < m.length; i++) {
                BigInteger lead = m[i][c];
                for (int j = 0; j < columns; j++) {
                    m[i][j] = m[i][j].multiply(m[rank][c]).subtract(m[rank][j].multiply(lead));
                }
            }
            rank++;
        }
        return rank;
    }

    /** The middles solve A c = -column 0: none if that column adds to the rank. */
    static int middles(long[][] m) {
        int d = m.length - 1;
        long[][] widened = new long[d][];
        for (int i = 1; i <= d; i++) {
            widened[i - 1] = m[i];
        }
        int rank = rank(partA(m));
        return rank(widened) != rank ? -3 : d - rank;
    }

    /** As A is symmetric, it has as many unlike values as 1, A, A A are independent. */
    static int unlike(long[][] a) {
        int n = a.length;
        long[][] powers = new long[n][n * n];
        for (int i = 0; i < n; i++) {
            for (int j = 0; j < n; j++) {
                powers[0][n * i + j] = i == j ? 1 : 0;
                powers[1][n * i + j] = a[i][j];
                for (int k = 0; k < n && n == 3; k++) {
                    powers[2][n * i + j] += a[i][k] * a[k][j];
                }
            }
        }
        return rank(powers);
    }

    static long product(long[][] m, long[] p, long[] q) {
        long sum = 0;
        for (int i = 0; i < m.length; i++) {
            for (int j = 0; j < m.length; j++) {
                sum += m[i][j] * p[i] * q[j];
            }
        }
        return sum;
    }

    /** The form by vectors that span a part of the room. */
    static long[][] restrict(long[][] m, long[][] basis) {
        long[][] r = new long[basis.length][basis.length];
        for (int i = 0; i < basis.length; i++) {
            for (int j = 0; j < basis.length; j++) {
                r[i][j] = product(m, basis[i], basis[j]);
            }
        }
        return r;
    }

    /** A plane touches just where the form within it is singular. */
    static int touches(long[][] m, long[] u) {
        int pivot = 0;
        while (u[pivot] == 0) {
            pivot++;
        }
        long[][] basis = new long[m.length - 1][m.length];
        for (int i = 0; i < basis.length; i++) {
            int other = i < pivot ? i : i + 1;
            basis[i][other] = u[pivot];
            basis[i][pivot] = -u[other];
        }
        return determinant(restrict(m, basis)) == 0 ? 1 : 0;
    }

    /** The kind in the plane n p = e, by its point nearest to 0 and two steps across n. */
    static int section(long[][] m, long[] n, long e) {
        long[] foot = {n[0] * n[0] + n[1] * n[1] + n[2] * n[2], e * n[0], e * n[1], e * n[2]};
        long[][] steps = {
            {0, 0, n[2], -n[1]}, {0, -n[2], 0, n[0]}, {0, n[1], -n[0], 0},
        };
        for (int i = 0; i < 3; i++) {
            long[][] two = {steps[i], steps[(i + 1) % 3]};
            if (rank(two) == 2) {
                return kind(restrict(m, new long[][] {foot, two[0], two[1]}));
            }
        }
        throw new IllegalStateException("n is 0");
    }

    /** By the form's values at three points of the line. */
    static int meets(long[][] m, long[] p, long[] step) {
        long[] next = p.clone();
        long[] before = p.clone();
        for (int i = 1; i < p.length; i++) {
            next[i] += step[i];
            before[i] -= step[i];
        }
        long c = product(m, p, p);
        long twiceA = product(m, next, next) + product(m, before, before) - 2 * c;
        long twiceB = product(m, next, next) - product(m, before, before);
        if (twiceA == 0 && twiceB == 0) {
            return c == 0 ? 3 : 0;
        }
        if (twiceA == 0) {
            return 1;
        }
        return Long.signum(twiceB * twiceB - 8 * twiceA * c) + 1;
    }

    /** All numbers of a table in one row. */
    static long[] flat(long[][] m) {
        long[] row = new long[m.length * m.length];
        for (int i = 0; i < m.length; i++) {
            System.arraycopy(m[i], 0, row, m.length * i, m.length);
        }
        return row;
    }

    /** The rows of the lines of a form of d = 2, in their order; none where there are no such rows. */
    static long[][] lines(long[][] m) {
        switch (kind(m)) {
            case 7: return new long[][] {clear(new long[] {m[0][0], 2 * m[0][1], 2 * m[0][2]})};
            case 9: return new long[][] {clear(twoLines(m)[0])};
            case 5: case 6: return inOrder(twoLines(m));
            default: return new long[0][];
        }
    }

    /** With A not all 0: by the way to solve for x, or for y where there is no square of x. */
    private static long[][] twoLines(long[][] m) {
        if (m[1][1] != 0) {
            return solved(m, 1, 2);
        }
        if (m[2][2] != 0) {
            return solved(m, 2, 1);
        }
        return new long[][] {{m[0][2], m[1][2], 0}, {m[0][1], 0, m[1][2]}};
    }

    /**
     * The form times m(p, p) is the square of (m(0, p) + m(p, p) xp + m(q, p) xq) less the square
     * of some s + t xq.
     */
    private static long[][] solved(long[][] m, int p, int q) {
        long s = root(m[0][p] * m[0][p] - m[p][p] * m[0][0]);
        long t = root(m[q][p] * m[q][p] - m[p][p] * m[q][q]);
        if (s < 0 || t < 0) {
            return new long[0][];
        }
        t = s * t == m[0][p] * m[q][p] - m[p][p] * m[0][q] ? t : -t;
        long[][] rows = new long[2][3];
        for (int k = 0; k < 2; k++) {
            int sign = 1 - 2 * k;
            rows[k][0] = m[0][p] + sign * s;
            rows[k][p] = m[p][p];
            rows[k][q] = m[q][p] + sign * t;
        }
        return rows;
    }

    /** -1 where the number is not the square of a whole one. */
    private static long root(long square) {
        long root = Math.round(Math.sqrt(square));
        return root * root == square ? root : -1;
    }

    private static long[][] inOrder(long[][] rows) {
        for (int k = 0; k < rows.length; k++) {
            rows[k] = clear(rows[k]);
        }
        Arrays.sort(rows, Arrays::compare);
        return rows;
    }

    /** The row without a common divisor, the first that is not 0 above 0; null if all is 0. */
    static long[] clear(long[] row) {
        BigInteger divisor = BigInteger.ZERO;
        int sign = 0;
        for (long v : row) {
            divisor = divisor.gcd(BigInteger.valueOf(v));
            sign = sign == 0 ? Long.signum(v) : sign;
        }
        if (sign == 0) {
            return null;
        }
        long[] clear = new long[row.length];
        for (int i = 0; i < row.length; i++) {
            clear[i] = row[i] / divisor.longValueExact() * sign;
        }
        return clear;
    }
}
