/** Drawn numbers that are the same in every run of a test. */
final class Numbers {
    private long state;

    Numbers(long seed) {
        state = seed;
    }

    /** One of low .. high. */
    int next(int low, int high) {
        state = state * 6364136223846793005L + 1442695040888963407L;
        return low + (int) ((state >>> 33) % (high - low + 1));
    }

    boolean oneIn(int n) {
        return next(1, n) == 1;
    }

    /** How many numbers tell a form of this dimension, in the order of Checks.fill. */
    static int count(int d) {
        return (d + 1) * (d + 2) / 2;
    }

    /** Full range, sparse, or a sum of a few squares of rows, which brings the singular kinds. */
    int[] form(int d) {
        switch (next(0, 3)) {
            case 0: return form(d, 20, 1);
            case 1: return form(d, 20, 3);
            case 2: return form(d, 1, 3);
            default: return sumOfSquares(d, next(1, d + 1), next(1, 2));
        }
    }

    /** One in so many numbers is not 0. */
    private int[] form(int d, int size, int oneIn) {
        int[] m = new int[count(d)];
        for (int i = 0; i < m.length; i++) {
            m[i] = oneIn(oneIn) ? next(-size, size) : 0;
        }
        return m;
    }

    private int[] sumOfSquares(int d, int squares, int size) {
        int[] m = new int[count(d)];
        for (int s = 0; s < squares; s++) {
            int factor = oneIn(3) ? -1 : 1;
            int[] row = new int[d + 1];
            for (int i = 0; i <= d; i++) {
                row[i] = next(-size, size);
            }
            int k = 0;
            for (int i = 0; i <= d; i++) {
                for (int j = i; j <= d; j++) {
                    m[k++] += factor * row[i] * row[j];
                }
            }
        }
        return m;
    }

    /** Of two lines with rows of whole numbers, at times parallel or the same; for d = 2. */
    int[] lines() {
        int[] u = {next(-3, 3), next(-3, 3), next(-3, 3)};
        int[] v = oneIn(3) ? new int[] {next(-3, 3), u[1], u[2]}
                : new int[] {next(-3, 3), next(-3, 3), next(-3, 3)};
        return new int[] {2 * u[0] * v[0], u[0] * v[1] + u[1] * v[0], u[0] * v[2] + u[2] * v[0],
            2 * u[1] * v[1], u[1] * v[2] + u[2] * v[1], 2 * u[2] * v[2]};
    }
}
