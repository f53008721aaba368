import java.util.ArrayList;
import java.util.Arrays;
import java.util.HashMap;
import java.util.List;
import java.util.Map;

/** All small forms of dimension 2, and many forms of both, each on an object of its own. */
public final class ReferenceTest {
    private static final long NOTHING = Checks.NOTHING;

    private static final Numbers NUMBERS = new Numbers(20261115L);
    private static final boolean[] SEEN_KINDS = new boolean[27];
    private static final boolean[] SEEN_SECTIONS = new boolean[10];

    public static void main(String[] args) {
        smallForms(2, 5, 1);
        smallForms(3, 3, 5);
        mixedForms(2, 4000);
        mixedForms(3, 12000);
        linesByMultiplying();
        checkSeen();
        Checks.end();
    }

    /** One in so many of all forms whose numbers have so many values. */
    private static void smallForms(int d, int values, int step) {
        int count = (int) Math.pow(values, Numbers.count(d));
        for (int code = 0; code < count; code += step) {
            checkForm(d, smallForm(Numbers.count(d), values, code));
        }
    }

    private static int[] smallForm(int numbers, int values, int code) {
        int[] m = new int[numbers];
        int rest = code;
        for (int i = 0; i < numbers; i++) {
            m[i] = rest % values - values / 2;
            rest /= values;
        }
        return m;
    }

    private static void mixedForms(int d, int count) {
        for (int n = 0; n < count; n++) {
            checkForm(d, NUMBERS.form(d));
        }
    }

    private static void checkForm(int d, int[] m) {
        Twin twin = Twin.with(m);
        SEEN_KINDS[(int) twin.ask("kind")] = true;
        twin.ask("keep");
        for (int what = 0; what <= 3; what++) {
            twin.ask("signs", what);
            twin.ask("determinant", what);
        }
        twin.ask("unlike");
        checkMiddles(twin, d);
        for (int n = 0; n < 4; n++) {
            checkBelow(twin);
            checkPoint(twin, d);
            checkTouches(twin);
            checkMeets(twin);
            checkSection(twin);
        }
        for (int k = 0; k <= 1; k++) {
            for (int i = 0; i <= 2; i++) {
                twin.ask("line", k, i);
            }
        }
        checkAlike(twin, m);
    }

    private static void checkMiddles(Twin twin, int d) {
        boolean onlyOne = twin.ask("middles") == 0;
        double value = twin.model.number(0, 0);
        for (int axis = 1; axis <= d; axis++) {
            double up = twin.ask("middle", axis, 0);
            value += twin.model.number(0, axis) * up / twin.ask("middle", axis, 1);
        }
        double up = twin.ask("height", 0);
        double height = up / twin.ask("height", 1);
        Checks.holds("height is the form at the middle", !onlyOne
                || Math.abs(value - height) <= 1e-6 * (1 + Math.abs(height) + 20 * Math.abs(value)));
    }

    private static void checkBelow(Twin twin) {
        int down = NUMBERS.oneIn(4) ? NUMBERS.next(1, 100) : NUMBERS.next(1, 3);
        int up = NUMBERS.oneIn(4) ? NUMBERS.next(-2000, 2000) : NUMBERS.next(-25, 25) * down;
        twin.ask("below", up, down);
    }

    private static void checkPoint(Twin twin, int d) {
        int size = NUMBERS.oneIn(3) ? 1000 : 3;
        int[] p = draw(3, size);
        int down = NUMBERS.oneIn(3) ? NUMBERS.next(1, 100) : NUMBERS.next(1, 2);
        twin.ask("at", p[0], p[1], p[2], down);
        for (int i = 0; i <= d + 1; i++) {
            twin.ask("polar", p[0], p[1], p[2], down, i);
        }
    }

    private static void checkTouches(Twin twin) {
        twin.ask("touches", draw(4, NUMBERS.oneIn(3) ? 20 : 2));
    }

    private static void checkMeets(Twin twin) {
        twin.ask("meets", draw(6, NUMBERS.oneIn(3) ? 20 : 2));
    }

    private static void checkSection(Twin twin) {
        long kind = twin.ask("section", draw(4, NUMBERS.oneIn(3) ? 10 : 1));
        if (kind >= 0) {
            SEEN_SECTIONS[(int) kind] = true;
        }
    }

    private static int[] draw(int count, int size) {
        int[] drawn = new int[count];
        for (int i = 0; i < count; i++) {
            drawn[i] = NUMBERS.next(-size, size);
        }
        return drawn;
    }

    private static void checkAlike(Twin twin, int[] m) {
        twin.ask("alike");
        int[] turned = new int[m.length];
        for (int i = 0; i < m.length; i++) {
            turned[i] = -m[i];
        }
        twin.fill(turned);
        twin.ask("alike");
        int k = NUMBERS.next(0, m.length - 1);
        turned[k] += turned[k] == 20 ? -1 : 1;
        twin.fill(turned);
        twin.ask("alike");
    }

    /**
     * All products of two rows with numbers to 4, which are all that a form with numbers to 2 can
     * fall into: each place of the one times that of the other is at most 2, or the other's is 0
     * there and the crosswise product at most 4.
     */
    private static void linesByMultiplying() {
        List<long[]> rows = clearRows(4);
        Map<String, long[][]> pairs = new HashMap<>();
        for (int i = 0; i < rows.size(); i++) {
            for (int j = i; j < rows.size(); j++) {
                pairs.put(key(multiply(rows.get(i), rows.get(j))), new long[][] {rows.get(i), rows.get(j)});
            }
        }
        for (int code = 0; code < 15625; code++) {
            checkLines(smallForm(6, 5, code), pairs);
        }
        for (long[][] pair : pairs.values()) {
            int[] m = asForm(multiply(pair[0], pair[1]));
            if (m != null) {
                checkLines(m, pairs);
            }
        }
    }

    /** In the order in which lines are told, apart from the row 1, 0, 0, that has no points. */
    private static List<long[]> clearRows(int size) {
        List<long[]> rows = new ArrayList<>();
        for (int a = -size; a <= size; a++) {
            for (int b = -size; b <= size; b++) {
                for (int c = -size; c <= size; c++) {
                    long[] row = {a, b, c};
                    if ((b != 0 || c != 0) && Arrays.equals(row, Reference.clear(row))) {
                        rows.add(row);
                    }
                }
            }
        }
        return rows;
    }

    /** The product's coefficients, of 1, x, y, x x, x y, y y. */
    private static long[] multiply(long[] u, long[] v) {
        return new long[] {u[0] * v[0], u[0] * v[1] + u[1] * v[0], u[0] * v[2] + u[2] * v[0],
            u[1] * v[1], u[1] * v[2] + u[2] * v[1], u[2] * v[2]};
    }

    private static String key(long[] coefficients) {
        return Arrays.toString(Reference.clear(coefficients));
    }

    /** Twice the product, so that what stands beside the squares can be halved; null if too great. */
    private static int[] asForm(long[] c) {
        int[] m = {(int) (2 * c[0]), (int) c[1], (int) c[2], (int) (2 * c[3]), (int) c[4], (int) (2 * c[5])};
        for (int v : m) {
            if (v < -20 || v > 20) {
                return null;
            }
        }
        return m;
    }

    private static void checkLines(int[] m, Map<String, long[][]> pairs) {
        ConicKinds conic = Checks.plane(m);
        int kind = conic.kind();
        long[][] want = {};
        if (kind == 7) {
            want = new long[][] {Reference.clear(new long[] {m[0], 2 * m[1], 2 * m[2]})};
        } else if (kind == 5 || kind == 6 || kind == 9) {
            long[][] pair = pairs.get(key(new long[] {m[0], 2 * m[1], 2 * m[2], m[3], 2 * m[4], m[5]}));
            want = pair == null ? want : kind == 9 ? new long[][] {pair[0]} : pair;
        }
        for (int k = -1; k <= 3; k++) {
            for (int i = -1; i <= 3; i++) {
                boolean isThere = k >= 0 && k < want.length && i >= 0 && i < 3;
                Checks.due(Arrays.toString(m) + " line(" + k + ", " + i + ")",
                        conic.line(k, i), isThere ? want[k][i] : NOTHING);
            }
        }
    }

    private static void checkSeen() {
        for (int kind = 0; kind < SEEN_KINDS.length; kind++) {
            Checks.holds("the forms looked at have kind " + kind, SEEN_KINDS[kind]);
        }
        for (int kind = 0; kind < SEEN_SECTIONS.length; kind++) {
            Checks.holds("the sections looked at have kind " + kind, SEEN_SECTIONS[kind]);
        }
    }
}
