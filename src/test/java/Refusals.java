import java.util.Arrays;
import java.util.function.ToLongFunction;

/** Looks at refused calls: at their answer, and at all that they must leave as it was. */
final class Refusals {
    static final int LEAST = Integer.MIN_VALUE;
    static final int MOST = Integer.MAX_VALUE;

    private Refusals() {
    }

    /** A form with which no call is refused but for its arguments, and, with d = 3, no line. */
    static ConicKinds regular(int d) {
        return d == 2 ? Checks.plane(-7, 1, 2, 3, 1, 5) : Checks.space(-7, 1, 2, 3, 3, 1, 0, 5, 1, 4);
    }

    /** All that can be told of an object without changing it. */
    static String state(ConicKinds conic) {
        int d = conic.section(1, 0, 0, 0) == -3 ? 2 : 3;
        return "d = " + d + " " + Arrays.deepToString(Checks.read(conic, d)) + " alike " + conic.alike();
    }

    /** The call on this object answers want, and all stays as it is. */
    static void unchanged(String what, ConicKinds conic, long want, ToLongFunction<ConicKinds> call) {
        String before = state(conic);
        Checks.due(what, call.applyAsLong(conic), want);
        String after = state(conic);
        Checks.holds(what + " leaves " + before + ", not " + after, before.equals(after));
    }

    /** The call is refused on a regular form of this dimension, whether it is the kept one or not. */
    static void refused(String what, int d, long want, ToLongFunction<ConicKinds> call) {
        String name = "d = " + d + ": " + what;
        for (int changed = 0; changed <= 1; changed++) {
            ConicKinds conic = regular(d);
            conic.keep();
            conic.put(1, 2, 1 + changed);
            unchanged(name, conic, want, call);
            conic.put(1, 2, 2 - changed);
            Checks.due(name + " leaves the kept one", conic.alike(), changed);
            Checks.due(name + " leaves the dimension", conic.dimension(d), d);
        }
    }

    /** The same in both dimensions. */
    static void refusedInBoth(String what, long want, ToLongFunction<ConicKinds> call) {
        refused(what, 2, want, call);
        refused(what, 3, want, call);
    }
}
