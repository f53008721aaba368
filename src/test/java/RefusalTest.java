import java.util.Arrays;
import java.util.function.ToLongFunction;

/** Refused calls answer what is due and change neither the form, nor the dimension, nor the kept one. */
public final class RefusalTest {
    private static final int LOW = Integer.MIN_VALUE;
    private static final int HIGH = Integer.MAX_VALUE;
    private static final long NOTHING = Checks.NOTHING;

    public static void main(String[] args) {
        for (int d = 2; d <= 3; d++) {
            refusePuts(d);
            refuseChoices(d);
            refusePoints(d);
            refuseCuts(d);
        }
        refuseWithoutKept();
        refuseByState();
        Checks.end();
    }

    private static ConicKinds regular(int d) {
        return d == 2 ? Checks.plane(-7, 1, 2, 3, 1, 5) : Checks.space(-7, 1, 2, 3, 3, 1, 0, 5, 1, 4);
    }

    /** Whether kept is alike or not, the refused call must leave that as it is. */
    private static void refused(String what, int d, long want, ToLongFunction<ConicKinds> call) {
        for (int changed = 0; changed <= 1; changed++) {
            ConicKinds conic = regular(d);
            conic.keep();
            conic.put(1, 2, 1 + changed);
            int[][] before = Checks.read(conic, d);
            Checks.due("d = " + d + ": " + what, call.applyAsLong(conic), want);
            Checks.holds(what + " leaves the form", Arrays.deepEquals(before, Checks.read(conic, d)));
            Checks.due(what + " leaves the kept one", conic.alike(), 1 - changed);
            Checks.due(what + " leaves the dimension", conic.dimension(d), d);
        }
    }

    private static void refusePuts(int d) {
        for (int wrong : new int[] {LOW, -1, d + 1, 4, HIGH}) {
            refused("put, i wrong", d, NOTHING, c -> c.put(wrong, 0, 5));
            refused("put, j wrong", d, NOTHING, c -> c.put(0, wrong, 5));
            refused("put, all wrong", d, NOTHING, c -> c.put(wrong, wrong, 21));
        }
        for (int wrong : new int[] {LOW, -21, 21, HIGH}) {
            refused("put, v wrong", d, NOTHING, c -> c.put(1, 1, wrong));
        }
        for (int wrong : new int[] {LOW, -3, -2, 0, 1, 4, HIGH}) {
            refused("dimension", d, -2, c -> c.dimension(wrong));
        }
    }

    private static void refuseChoices(int d) {
        for (int wrong : new int[] {LOW, -1, 4, HIGH}) {
            refused("signs", d, -2, c -> c.signs(wrong));
            refused("determinant", d, NOTHING, c -> c.determinant(wrong));
        }
        for (int wrong : new int[] {LOW, -1, 2, HIGH}) {
            refused("middle, part", d, NOTHING, c -> c.middle(1, wrong));
            refused("height", d, NOTHING, c -> c.height(wrong));
        }
        for (int wrong : new int[] {LOW, -1, 0, d + 1, HIGH}) {
            refused("middle, axis", d, NOTHING, c -> c.middle(wrong, 0));
        }
        for (int wrong : new int[] {LOW, -2001, 2001, HIGH}) {
            refused("below, up", d, -2, c -> c.below(wrong, 1));
        }
        for (int wrong : new int[] {LOW, -1, 0, 101, HIGH}) {
            refused("below, down", d, -2, c -> c.below(1, wrong));
        }
    }

    private static void refusePoints(int d) {
        for (int wrong : new int[] {LOW, -1001, 1001, HIGH}) {
            refused("at, x", d, -2, c -> c.at(wrong, 0, 0, 1));
            refused("at, y", d, -2, c -> c.at(0, wrong, 0, 1));
            refused("polar, x", d, NOTHING, c -> c.polar(wrong, 0, 0, 1, 0));
            refused("polar, y", d, NOTHING, c -> c.polar(0, wrong, 0, 1, 0));
            if (d == 3) {
                refused("at, z", d, -2, c -> c.at(0, 0, wrong, 1));
                refused("polar, z", d, NOTHING, c -> c.polar(0, 0, wrong, 1, 0));
            }
        }
        for (int wrong : new int[] {LOW, -1, 0, 101, HIGH}) {
            refused("at, down", d, -2, c -> c.at(0, 0, 0, wrong));
            refused("polar, down", d, NOTHING, c -> c.polar(0, 0, 0, wrong, 0));
        }
        for (int wrong : new int[] {LOW, -1, d + 1, HIGH}) {
            refused("polar, i", d, NOTHING, c -> c.polar(1, 1, 1, 1, wrong));
        }
        for (int wrong : new int[] {LOW, -21, 21, HIGH}) {
            refused("touches, u0", d, -2, c -> c.touches(wrong, 1, 1, 1));
            refused("touches, u1", d, -2, c -> c.touches(1, wrong, 1, 1));
            refused("touches, u2", d, -2, c -> c.touches(1, 1, wrong, 1));
            if (d == 3) {
                refused("touches, u3", d, -2, c -> c.touches(1, 1, 1, wrong));
            }
        }
        refused("touches, no line", d, -2, c -> c.touches(5, 0, 0, 0));
    }

    private static void refuseCuts(int d) {
        long first = d == 2 ? -3 : -2;
        for (int wrong : new int[] {LOW, -11, 11, HIGH}) {
            refused("section, a", d, first, c -> c.section(wrong, 1, 1, 1));
            refused("section, b", d, first, c -> c.section(1, wrong, 1, 1));
            refused("section, c", d, first, c -> c.section(1, 1, wrong, 1));
            refused("section, e", d, first, c -> c.section(1, 1, 1, wrong));
        }
        refused("section, no plane", d, first, c -> c.section(0, 0, 0, 1));
        for (int wrong : new int[] {LOW, -21, 21, HIGH}) {
            refused("meets, x", d, -2, c -> c.meets(wrong, 0, 0, 1, 1, 1));
            refused("meets, y", d, -2, c -> c.meets(0, wrong, 0, 1, 1, 1));
            refused("meets, u", d, -2, c -> c.meets(0, 0, 0, wrong, 1, 1));
            refused("meets, v", d, -2, c -> c.meets(0, 0, 0, 1, wrong, 1));
            if (d == 3) {
                refused("meets, z", d, -2, c -> c.meets(0, 0, wrong, 1, 1, 1));
                refused("meets, w", d, -2, c -> c.meets(0, 0, 0, 1, 1, wrong));
            }
        }
        refused("meets, no line", d, -2, c -> c.meets(1, 1, 1, 0, 0, 0));
        for (int k : new int[] {LOW, -1, 0, 1, 2, HIGH}) {
            refused("line, no lines", d, NOTHING, c -> c.line(k, 0));
            refused("line, no lines", d, NOTHING, c -> c.line(0, k));
        }
    }

    private static void refuseWithoutKept() {
        for (int d = 2; d <= 3; d++) {
            ConicKinds conic = regular(d);
            int[][] before = Checks.read(conic, d);
            Checks.due("alike, none kept", conic.alike(), -3);
            Checks.due("alike, still none kept", conic.alike(), -3);
            Checks.holds("alike leaves the form", Arrays.deepEquals(before, Checks.read(conic, d)));
        }
    }

    private static void unchanged(String what, ConicKinds conic, long want, ToLongFunction<ConicKinds> call) {
        int[][] before = Checks.read(conic, 2);
        Checks.due(what, call.applyAsLong(conic), want);
        Checks.holds(what + " leaves the form", Arrays.deepEquals(before, Checks.read(conic, 2)));
        Checks.due(what + " keeps nothing", conic.alike(), -3);
    }

    private static void refuseByState() {
        ConicKinds parabola = Checks.plane(0, 0, 1, 1, 0, 0);
        unchanged("middles, none", parabola, -3, c -> c.middles());
        unchanged("middle, none", parabola, NOTHING, c -> c.middle(1, 0));
        unchanged("height, part first", parabola, NOTHING, c -> c.height(HIGH));
        ConicKinds lines = Checks.plane(0, 0, 0, 1, 0, -2);
        unchanged("touches, singular", lines, -3, c -> c.touches(0, 1, 0, 0));
        unchanged("touches, bounds first", lines, -2, c -> c.touches(0, 0, 0, 1));
        unchanged("line, no such rows", lines, NOTHING, c -> c.line(0, 1));
        unchanged("polar, all 0", lines, NOTHING, c -> c.polar(0, 0, 0, 1, 0));
        int[][] before = Checks.read(parabola, 2);
        Checks.dueArithmetic("height", () -> parabola.height(0));
        Checks.holds("height leaves the form", Arrays.deepEquals(before, Checks.read(parabola, 2)));
    }
}
