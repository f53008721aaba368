import java.util.Arrays;

/** Curves and surfaces of the second degree with whole coefficients, told exactly. */
public final class ConicKinds {
    public static final long NOTHING = -1000000000000000000L;

    private static final int OUTSIDE = -2;
    private static final int NONE = -3;

    // Every table stands in rows of four, in both DIMENSIONS, so that a place never moves.
    private static final int WIDTH = 4;
    private static final int CELLS = 16;

    private static final int MOST_ENTRY = 20;
    private static final int MOST_UP = 2000;
    private static final int MOST_DOWN = 100;
    private static final int MOST_COORDINATE = 1000;
    private static final int MOST_PLANE = 10;

    private static final int CROSSING_LINES = 5;
    private static final int PARALLEL_LINES = 6;
    private static final int SINGLE_LINE = 7;
    private static final int ALL_OF_PLANE = 8;
    private static final int DOUBLE_LINE = 9;
    private static final int ALL_OF_SPACE = 26;

    // Minors of two rows with entries up to 20 are at most 800, and 29 * 29 is beyond that.
    private static final int MOST_ROOT = 28;

    // Euclid needs fewer than 93 steps for any two longs.
    private static final int MOST_STEPS = 100;

    private int size = 2;
    private boolean hasKept = false;
    private final long[] form = new long[CELLS];
    private final long[] kept = new long[CELLS];

    // Room for the work of a call, made once so that calls make nothing.
    private final Table table = new Table();
    private final long[] work = new long[CELLS];
    private final long[] first = new long[WIDTH];
    private final long[] second = new long[WIDTH];

    public ConicKinds() {
    }

    public int dimension(int d) {
        if (d != 2 && d != 3) {
            return OUTSIDE;
        }
        int before = size;
        size = d;
        hasKept = false;
        Arrays.fill(form, 0L);
        return before;
    }

    public long put(int i, int j, int v) {
        if (isNoPlace(i) || isNoPlace(j) || isBeyond(v, MOST_ENTRY)) {
            return NOTHING;
        }
        long before = form[place(i, j)];
        form[place(i, j)] = v;
        form[place(j, i)] = v;
        return before;
    }

    public int kind() {
        return kindOf(form, size);
    }

    public int signs(int what) {
        if (what < 0 || what > 3) {
            return OUTSIDE;
        }
        table.load(form, what < 2 ? 1 : 0, size);
        return what % 2 == 0 ? table.countAbove() : table.countBelow();
    }

    public long determinant(int what) {
        if (what < 0 || what > 3) {
            return NOTHING;
        }
        table.load(form, what == 1 ? 0 : 1, size);
        if (what == 2) {
            return table.sumOfValues();
        }
        return what == 3 ? table.sumOfPairs() : table.productOfValues();
    }

    // ---- middles

    public int middles() {
        table.load(form, 1, size);
        int rank = table.rank();
        table.load(form, 0, size);
        // A MIDDLE c solves A c = -(m(1, 0) .. m(d, 0)). Where that column is no sum of columns
        // of A, it and the row like it each add one to the rank, and only there are both added.
        return table.rank() == rank + 2 ? NONE : size - rank;
    }

    public long middle(int axis, int part) {
        if (axis < 1 || axis > size || isNoPart(part)) {
            return NOTHING;
        }
        table.load(form, 1, size);
        long sum = 0;
        for (int j = 1; j <= size; j++) {
            sum -= table.adjugate(axis - 1, j - 1) * form[place(j, 0)];
        }
        return partOfFraction(sum, table.productOfValues(), part);
    }

    public long height(int part) throws ArithmeticException {
        if (isNoPart(part)) {
            return NOTHING;
        }
        table.load(form, 1, size);
        long down = table.productOfValues();
        if (down == 0) {
            throw new ArithmeticException("the determinant of A is 0");
        }
        table.load(form, 0, size);
        return partOfFraction(table.productOfValues(), down, part);
    }

    // ---- values of A

    public int below(int up, int down) {
        if (isBeyond(up, MOST_UP) || down < 1 || down > MOST_DOWN) {
            return OUTSIDE;
        }
        // The VALUES of down * A - up are below 0 just where those of A are below up / down.
        for (int i = 1; i <= size; i++) {
            for (int j = 1; j <= size; j++) {
                work[place(i, j)] = down * form[place(i, j)] - (i == j ? up : 0);
            }
        }
        table.load(work, 1, size);
        return table.countBelow();
    }

    public int unlike() {
        table.load(form, 1, size);
        return table.countUnlike();
    }

    // ---- points, polars

    public int at(int x, int y, int z, int down) {
        if (!takePoint(x, y, z, down)) {
            return OUTSIDE;
        }
        return signCode(formOf(first, first));
    }

    public long polar(int x, int y, int z, int down, int i) {
        if (isNoPlace(i) || !takePoint(x, y, z, down)) {
            return NOTHING;
        }
        for (int k = 0; k <= size; k++) {
            second[k] = rowTimes(k, first);
        }
        return clearDivisor(second, size + 1) ? second[i] : NOTHING;
    }

    public int touches(int u0, int u1, int u2, int u3) {
        setRow(first, u0, u1, u2, u3);
        if (isRowBeyond(first, MOST_ENTRY) || isAllZero(first, 1, size)) {
            return OUTSIDE;
        }
        table.load(form, 0, size);
        if (table.productOfValues() == 0) {
            return NONE;
        }
        // The only point with this polar is the inverse of ALL times the row; put into THE FORM
        // it gives the row on both sides of that inverse, which is the adjugate but for a factor.
        long sum = 0;
        for (int i = 0; i <= size; i++) {
            for (int j = 0; j <= size; j++) {
                sum += first[i] * table.adjugate(i, j) * first[j];
            }
        }
        return sum == 0 ? 1 : 0;
    }

    // ---- cuts

    public int section(int a, int b, int c, int e) {
        if (size == 2) {
            return NONE;
        }
        setRow(first, e, a, b, c);
        if (isRowBeyond(first, MOST_PLANE) || isAllZero(first, 1, size)) {
            return OUTSIDE;
        }
        first[0] = -first[0];
        cutInto(work, c != 0 ? 3 : b != 0 ? 2 : 1);
        return kindOf(work, 2);
    }

    public int meets(int x, int y, int z, int u, int v, int w) {
        setRow(first, 1, x, y, z);
        setRow(second, 0, u, v, w);
        if (isRowBeyond(first, MOST_ENTRY) || isRowBeyond(second, MOST_ENTRY)
                || isAllZero(second, 1, size)) {
            return OUTSIDE;
        }
        // THE FORM at point + t * step is square * t * t + 2 * half * t + start.
        long square = formOf(second, second);
        long half = formOf(first, second);
        long start = formOf(first, first);
        if (square != 0) {
            return signCode(half * half - square * start);
        }
        if (half != 0) {
            return 1;
        }
        return start == 0 ? 3 : 0;
    }

    public long line(int k, int i) {
        if (size != 2 || k < 0 || k > 1 || i < 0 || i > 2) {
            return NOTHING;
        }
        int lines = takeLines(kindOf(form, size));
        if (k >= lines) {
            return NOTHING;
        }
        boolean wantsFirst = lines == 1 || (k == 0) == isLess(first, second);
        return wantsFirst ? first[i] : second[i];
    }

    // ---- another form

    public int keep() {
        System.arraycopy(form, 0, kept, 0, CELLS);
        hasKept = true;
        return kindOf(form, size);
    }

    public int alike() {
        if (!hasKept) {
            return NONE;
        }
        int lead = 0;
        while (lead < CELLS - 1 && kept[lead] == 0 && form[lead] == 0) {
            lead++;
        }
        // At the first place where one of the two is not 0, a multiple other than by 0 has both.
        if ((kept[lead] == 0) != (form[lead] == 0)) {
            return 0;
        }
        for (int i = 0; i < CELLS; i++) {
            if (form[i] * kept[lead] != kept[i] * form[lead]) {
                return 0;
            }
        }
        return 1;
    }

    // ---- helpers: places, bounds, rows

    private static int place(int i, int j) {
        return WIDTH * i + j;
    }

    private boolean isNoPlace(int i) {
        return i < 0 || i > size;
    }

    private static boolean isNoPart(int part) {
        return part != 0 && part != 1;
    }

    private static boolean isBeyond(long v, int most) {
        return v < -most || v > most;
    }

    /** 2 above 0, 1 at 0, 0 below: how a point is told, and how many real roots a discriminant leaves. */
    private static int signCode(long v) {
        if (v == 0) {
            return 1;
        }
        return v > 0 ? 2 : 0;
    }

    /** Numbers that do not count with DIMENSION 2 become 0 here, before anything looks at them. */
    private void setRow(long[] row, long v0, long v1, long v2, long v3) {
        row[0] = v0;
        row[1] = v1;
        row[2] = v2;
        row[3] = size == 3 ? v3 : 0;
    }

    private static boolean isRowBeyond(long[] row, int most) {
        for (int i = 0; i < WIDTH; i++) {
            if (isBeyond(row[i], most)) {
                return true;
            }
        }
        return false;
    }

    private static boolean isAllZero(long[] row, int from, int to) {
        for (int i = from; i <= to; i++) {
            if (row[i] != 0) {
                return false;
            }
        }
        return true;
    }

    /** Whether the point is within its bounds; it then stands in first, with down as number 0. */
    private boolean takePoint(int x, int y, int z, int down) {
        if (down < 1 || down > MOST_DOWN) {
            return false;
        }
        setRow(first, down, x, y, z);
        return !isRowBeyond(first, MOST_COORDINATE);
    }

    private long rowTimes(int i, long[] point) {
        long sum = 0;
        for (int j = 0; j <= size; j++) {
            sum += form[place(i, j)] * point[j];
        }
        return sum;
    }

    private long formOf(long[] left, long[] right) {
        long sum = 0;
        for (int i = 0; i <= size; i++) {
            sum += left[i] * rowTimes(i, right);
        }
        return sum;
    }

    // ---- helpers: divisors

    private static long greatestDivisor(long a, long b) {
        long high = Math.abs(a);
        long low = Math.abs(b);
        for (int step = 0; step < MOST_STEPS && low != 0; step++) {
            long rest = high % low;
            high = low;
            low = rest;
        }
        return high;
    }

    /** NOTHING where down is 0. */
    private static long partOfFraction(long up, long down, int part) {
        if (down == 0) {
            return NOTHING;
        }
        long divisor = greatestDivisor(up, down);
        if (divisor == 0) {
            return NOTHING;
        }
        long signed = down < 0 ? -divisor : divisor;
        return (part == 0 ? up : down) / signed;
    }

    /** Tells the row WITHOUT DIVISOR; false where all of it is 0. */
    private static boolean clearDivisor(long[] row, int length) {
        long divisor = 0;
        long lead = 0;
        for (int i = 0; i < length; i++) {
            divisor = greatestDivisor(divisor, row[i]);
            lead = lead == 0 ? row[i] : lead;
        }
        if (divisor == 0) {
            return false;
        }
        long signed = lead < 0 ? -divisor : divisor;
        for (int i = 0; i < length; i++) {
            row[i] /= signed;
        }
        return true;
    }

    // ---- helpers: KINDS

    private int kindOf(long[] cells, int d) {
        table.load(cells, 1, d);
        int up = table.countAbove();
        int down = table.countBelow();
        table.load(cells, 0, d);
        int allUp = table.countAbove();
        int allDown = table.countBelow();
        boolean turned = down > up || (down == up && allDown > allUp);
        int code = turned ? codeOf(down, up, allDown, allUp) : codeOf(up, down, allUp, allDown);
        return d == 2 ? kindInPlane(code) : kindInSpace(code);
    }

    private static int codeOf(int up, int down, int allUp, int allDown) {
        return 1000 * up + 100 * down + 10 * allUp + allDown;
    }

    // A code is the document's own row of SIGNS without its marks: 2,0 / 2,1 is 2021. The VALUES
    // of A stand between those of ALL, so no other codes come than those that have a case.
    private static int kindInPlane(int code) {
        switch (code) {
            case 2030: return 0;
            case 2020: return 1;
            case 2021: return 2;
            case 1121: return 3;
            case 1111: return CROSSING_LINES;
            case 1021: return 4;
            case 1011: return PARALLEL_LINES;
            case 1020: return 0;
            case 1010: return DOUBLE_LINE;
            case 11: return SINGLE_LINE;
            case 10: return 0;
            default: return ALL_OF_PLANE;
        }
    }

    private static int kindInSpace(int code) {
        switch (code) {
            case 3040: return 10;
            case 3030: return 11;
            case 3031: return 12;
            case 2122: return 13;
            case 2131: return 14;
            case 2121: return 17;
            case 2031: return 15;
            case 2021: return 18;
            case 2030: return 10;
            case 2020: return 21;
            case 1122: return 16;
            case 1121: return 19;
            case 1111: return 22;
            case 1021: return 20;
            case 1011: return 23;
            case 1020: return 10;
            case 1010: return 25;
            case 11: return 24;
            case 10: return 10;
            default: return ALL_OF_SPACE;
        }
    }

    // ---- helpers: cuts

    /**
     * THE FORM in the plane whose row is first, by the numbers other than the one at pivot, where
     * the row is not 0. All is multiplied by the square of the row's number there, which keeps it
     * whole and leaves the SIGNS as they are.
     */
    private void cutInto(long[] target, int pivot) {
        for (int i = 0; i < WIDTH - 1; i++) {
            for (int j = 0; j < WIDTH - 1; j++) {
                target[place(i, j)] = cutCell(i < pivot ? i : i + 1, j < pivot ? j : j + 1, pivot);
            }
        }
    }

    private long cutCell(int i, int j, int pivot) {
        long scale = first[pivot];
        return scale * scale * form[place(i, j)]
                - scale * first[i] * form[place(pivot, j)]
                - scale * first[j] * form[place(i, pivot)]
                + first[i] * first[j] * form[place(pivot, pivot)];
    }

    // ---- helpers: lines

    /** How many lines with rows of whole numbers there are; they then stand in first and second. */
    private int takeLines(int kind) {
        switch (kind) {
            case SINGLE_LINE:
                setRow(first, form[place(0, 0)], 2 * form[place(0, 1)], 2 * form[place(0, 2)], 0);
                return clearDivisor(first, 3) ? 1 : 0;
            case DOUBLE_LINE:
                // ALL is a multiple of the line's row times itself, and A is not all 0.
                takeFormRow(form[place(1, 1)] != 0 ? 1 : 2);
                return clearDivisor(first, 3) ? 1 : 0;
            case CROSSING_LINES:
            case PARALLEL_LINES:
                return joinLines() && readLines() ? 2 : 0;
            default:
                return 0;
        }
    }

    private void takeFormRow(int i) {
        setRow(first, form[place(i, 0)], form[place(i, 1)], form[place(i, 2)], 0);
    }

    /**
     * ALL is a b' + b a' for two lines a, b, and its adjugate -p p' with p = a x b. Adding the
     * table that multiplies crosswise by p leaves 2 a b' or 2 b a'; work gets a multiple of that.
     * p is whole just where the lines have rows of whole numbers: false where it is not.
     */
    private boolean joinLines() {
        table.load(form, 0, 2);
        int k = 0;
        while (k < 2 && table.adjugate(k, k) == 0) {
            k++;
        }
        int root = rootOf(-table.adjugate(k, k));
        if (root == 0) {
            return false;
        }
        for (int i = 0; i < 3; i++) {
            for (int j = 0; j < 3; j++) {
                work[place(i, j)] = root * form[place(i, j)];
            }
        }
        addCrosswise(table.adjugate(k, 0), table.adjugate(k, 1), table.adjugate(k, 2));
        return true;
    }

    /** The root of a square from 1 on; 0 where there is none. */
    private static int rootOf(long square) {
        for (int root = 1; root <= MOST_ROOT; root++) {
            if ((long) root * root == square) {
                return root;
            }
        }
        return 0;
    }

    private void addCrosswise(long p0, long p1, long p2) {
        work[place(0, 1)] -= p2;
        work[place(0, 2)] += p1;
        work[place(1, 0)] += p2;
        work[place(1, 2)] -= p0;
        work[place(2, 0)] -= p1;
        work[place(2, 1)] += p0;
    }

    /** As work is a multiple of a b', its rows are multiples of the one line, its columns of the other. */
    private boolean readLines() {
        for (int i = 0; i < 3; i++) {
            for (int j = 0; j < 3; j++) {
                if (work[place(i, j)] != 0) {
                    return readLinesAt(i, j);
                }
            }
        }
        return false;
    }

    private boolean readLinesAt(int i, int j) {
        for (int k = 0; k < 3; k++) {
            first[k] = work[place(i, k)];
            second[k] = work[place(k, j)];
        }
        return clearDivisor(first, 3) && clearDivisor(second, 3);
    }

    private static boolean isLess(long[] left, long[] right) {
        for (int i = 0; i < 3; i++) {
            if (left[i] != right[i]) {
                return left[i] < right[i];
            }
        }
        return false;
    }

    /**
     * A table of whole numbers with its characteristic polynomial. As all VALUES are real, the
     * polynomial's coefficients tell all about them that is asked, without a root being taken.
     */
    private static final class Table {
        private int rows = 0;
        private final long[] cells = new long[CELLS];
        private final long[] factor = new long[CELLS];
        private final long[] product = new long[CELLS];
        // Number k belongs to power k; that of power rows is 1.
        private final long[] coefficients = new long[WIDTH + 1];

        /** Takes the part of source whose rows and columns are from .. to. */
        void load(long[] source, int from, int to) {
            rows = to - from + 1;
            for (int i = 0; i < rows; i++) {
                for (int j = 0; j < rows; j++) {
                    cells[place(i, j)] = source[place(from + i, from + j)];
                }
            }
            expand();
        }

        // The way of Faddeev and LeVerrier: it divides only where nothing is left over, so all
        // stays whole, and what it ends with is the adjugate but for its sign.
        private void expand() {
            Arrays.fill(product, 0L);
            coefficients[rows] = 1;
            for (int k = 1; k <= rows; k++) {
                System.arraycopy(product, 0, factor, 0, CELLS);
                for (int i = 0; i < rows; i++) {
                    factor[place(i, i)] += coefficients[rows - k + 1];
                }
                multiply();
                coefficients[rows - k] = -diagonal() / k;
            }
        }

        private void multiply() {
            for (int i = 0; i < rows; i++) {
                for (int j = 0; j < rows; j++) {
                    long sum = 0;
                    for (int k = 0; k < rows; k++) {
                        sum += cells[place(i, k)] * factor[place(k, j)];
                    }
                    product[place(i, j)] = sum;
                }
            }
        }

        private long diagonal() {
            long sum = 0;
            for (int i = 0; i < rows; i++) {
                sum += product[place(i, i)];
            }
            return sum;
        }

        long adjugate(int i, int j) {
            return rows % 2 == 0 ? -factor[place(i, j)] : factor[place(i, j)];
        }

        long productOfValues() {
            return rows % 2 == 0 ? coefficients[0] : -coefficients[0];
        }

        long sumOfValues() {
            return rows < 1 ? 0 : -coefficients[rows - 1];
        }

        long sumOfPairs() {
            return rows < 2 ? 0 : coefficients[rows - 2];
        }

        int rank() {
            int zeros = 0;
            while (zeros < rows && coefficients[zeros] == 0) {
                zeros++;
            }
            return rows - zeros;
        }

        // Descartes: with real roots alone, just as many are above 0 as the sign changes.
        int countAbove() {
            int changes = 0;
            long last = 1;
            for (int k = rows - 1; k >= 0; k--) {
                long next = coefficients[k];
                if (next != 0) {
                    changes += (next < 0) != (last < 0) ? 1 : 0;
                    last = next;
                }
            }
            return changes;
        }

        int countBelow() {
            return rank() - countAbove();
        }

        /** For two or three rows. */
        int countUnlike() {
            long sum = sumOfValues();
            long pairs = sumOfPairs();
            if (rows == 2) {
                return sum * sum == 4 * pairs ? 1 : 2;
            }
            // Twice sum * sum - 3 * pairs is the sum of the squares of all three differences.
            if (sum * sum == 3 * pairs) {
                return 1;
            }
            return discriminant(sum, pairs, productOfValues()) == 0 ? 2 : 3;
        }

        private static long discriminant(long sum, long pairs, long all) {
            return sum * sum * pairs * pairs - 4 * pairs * pairs * pairs
                    - 4 * sum * sum * sum * all + 18 * sum * pairs * all - 27 * all * all;
        }
    }
}
