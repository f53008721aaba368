/** Promises 18 and 19, keep and alike, case by case. */
public final class KeptCasesTest {
    public static void main(String[] args) throws IllegalAccessException {
        Cases.run(KeptCasesTest.class);
    }

    private static ConicKinds kept(int... m) {
        ConicKinds conic = Checks.make(m);
        conic.keep();
        return conic;
    }

    private static void dueAlike(String what, ConicKinds conic, long want, int... m) {
        Checks.fill(conic, m.length == 6 ? 2 : 3, m);
        Checks.due(what, conic.alike(), want);
    }

    // ---- promise 18: keep

    static void promise18_answersTheKind() {
        Checks.due("ellipse", Checks.plane(-1, 0, 0, 1, 0, 1).keep(), 2);
        Checks.due("turned", Checks.plane(1, 0, 0, -1, 0, -1).keep(), 2);
        Checks.due("saddle", Checks.space(0, 0, 0, -1, 1, 0, 0, -1, 0, 0).keep(), 16);
    }

    static void promise18_formAll0IsKeptToo() {
        ConicKinds conic = new ConicKinds();
        Checks.due("d = 2", conic.keep(), 8);
        Checks.due("alike()", conic.alike(), 1);
        conic.dimension(3);
        Checks.due("d = 3", conic.keep(), 26);
        Checks.due("alike()", conic.alike(), 1);
    }

    static void promise18_inPlaceOfOneBefore() {
        ConicKinds conic = kept(1, 0, 0, 0, 0, 0);
        Checks.fill(conic, 2, 0, 0, 0, 0, 0, 1);
        Checks.due("keep()", conic.keep(), 9);
        Checks.due("the new one", conic.alike(), 1);
        dueAlike("the one before", conic, 0, 1, 0, 0, 0, 0, 0);
        dueAlike("both together", conic, 0, 1, 0, 0, 0, 0, 1);
    }

    static void promise18_all0InPlaceOfOneBefore() {
        ConicKinds conic = kept(1, 2, 3, 4, 5, 6);
        Checks.fill(conic, 2, 0, 0, 0, 0, 0, 0);
        Checks.due("keep()", conic.keep(), 8);
        Checks.due("all 0", conic.alike(), 1);
        dueAlike("the one before", conic, 0, 1, 2, 3, 4, 5, 6);
    }

    static void promise18_theKeptOneStaysAsTheFormChanges() {
        ConicKinds conic = kept(1, 2, 3, 4, 5, 6);
        dueAlike("another", conic, 0, 6, 5, 4, 3, 2, 1);
        dueAlike("the kept one", conic, 1, 1, 2, 3, 4, 5, 6);
    }

    static void promise18_theFormStays() {
        ConicKinds conic = Checks.plane(1, 2, 3, 4, 5, 6);
        conic.keep();
        int[][] m = Checks.read(conic, 2);
        Checks.due("m(0, 0)", m[0][0], 1);
        Checks.due("m(1, 2)", m[1][2], 5);
        Checks.due("m(2, 2)", m[2][2], 6);
    }

    static void promise18_twiceInARow() {
        ConicKinds conic = kept(1, 2, 3, 4, 5, 6);
        Checks.due("keep()", conic.keep(), conic.kind());
        Checks.due("alike()", conic.alike(), 1);
    }

    // ---- promise 19: alike

    static void promise19_noneIsKept() {
        Refusals.unchanged("new", new ConicKinds(), -3, c -> c.alike());
        Refusals.unchanged("d = 2", Refusals.regular(2), -3, c -> c.alike());
        Refusals.unchanged("d = 3", Refusals.regular(3), -3, c -> c.alike());
    }

    static void promise19_noneIsKeptAfterDimension() {
        for (int d = 2; d <= 3; d++) {
            ConicKinds conic = kept(0, 0, 0, 0, 0, 0);
            conic.dimension(d);
            Checks.due("2 to " + d, conic.alike(), -3);
        }
    }

    static void promise19_aRefusedDimensionLeavesTheKeptOne() {
        ConicKinds conic = kept(1, 2, 3, 4, 5, 6);
        conic.dimension(1);
        conic.dimension(4);
        Checks.due("alike()", conic.alike(), 1);
    }

    static void promise19_bothAll0IsSo() {
        ConicKinds conic = kept(0, 0, 0, 0, 0, 0);
        Checks.due("d = 2", conic.alike(), 1);
        ConicKinds body = kept(0, 0, 0, 0, 0, 0, 0, 0, 0, 0);
        Checks.due("d = 3", body.alike(), 1);
    }

    static void promise19_formAll0IsBy0() {
        dueAlike("d = 2", kept(1, 2, 3, 4, 5, 6), 0, 0, 0, 0, 0, 0, 0);
        dueAlike("d = 2, one number", kept(0, 0, 0, 0, 0, 1), 0, 0, 0, 0, 0, 0, 0);
        dueAlike("d = 3, one number", kept(0, 0, 0, 0, 0, 0, 0, 0, 0, 1), 0, 0, 0, 0, 0, 0, 0, 0, 0, 0, 0);
    }

    static void promise19_keptAll0HasNoOtherMultiple() {
        dueAlike("m(0, 0)", kept(0, 0, 0, 0, 0, 0), 0, 1, 0, 0, 0, 0, 0);
        dueAlike("m(2, 2)", kept(0, 0, 0, 0, 0, 0), 0, 0, 0, 0, 0, 0, 1);
        dueAlike("m(3, 3)", kept(0, 0, 0, 0, 0, 0, 0, 0, 0, 0), 0, 0, 0, 0, 0, 0, 0, 0, 0, 0, -1);
    }

    static void promise19_by1() {
        dueAlike("d = 2", kept(1, 2, 3, 4, 5, 6), 1, 1, 2, 3, 4, 5, 6);
    }

    static void promise19_byMinus1() {
        dueAlike("d = 2", kept(1, 2, 3, 4, 5, 6), 1, -1, -2, -3, -4, -5, -6);
        dueAlike("at its bounds", kept(20, 20, -20, 0, 0, 20), 1, -20, -20, 20, 0, 0, -20);
    }

    static void promise19_byAFraction() {
        dueAlike("3 / 2", kept(2, 0, -4, 6, 8, 10), 1, 3, 0, -6, 9, 12, 15);
        dueAlike("2 / 3", kept(3, 0, -6, 9, 12, 15), 1, 2, 0, -4, 6, 8, 10);
        dueAlike("-1 / 20", kept(20, 0, -20, 0, 0, 0), 1, -1, 0, 1, 0, 0, 0);
        dueAlike("20", kept(1, 0, -1, 0, 0, 0, 0, 0, 0, 1), 1, 20, 0, -20, 0, 0, 0, 0, 0, 0, 20);
        dueAlike("20 / 19", kept(19, 0, 0, 0, 0, 0), 1, 20, 0, 0, 0, 0, 0);
    }

    static void promise19_oneNumberOffIsNot() {
        int[] m = {1, 2, 3, 4, 5, 6, 7, 8, 9, 10};
        for (int i = 0; i < m.length; i++) {
            int[] changed = m.clone();
            changed[i]++;
            dueAlike("place " + i, kept(m), 0, changed);
            changed[i] = 0;
            dueAlike("place " + i + " is 0", kept(m), 0, changed);
            changed[i] = -m[i];
            dueAlike("place " + i + " turned", kept(m), 0, changed);
        }
    }

    static void promise19_aPlaceThatIs0InTheKeptOneOnly() {
        dueAlike("m(0, 0)", kept(0, 1, 0, 0, 0, 0), 0, 1, 1, 0, 0, 0, 0);
        dueAlike("m(2, 2)", kept(1, 1, 0, 0, 0, 0), 0, 1, 1, 0, 0, 0, 1);
        dueAlike("other places", kept(1, 0, 0, 0, 0, 0), 0, 0, 0, 0, 0, 0, 1);
    }

    static void promise19_aPlaceThatIs0InTheFormOnly() {
        dueAlike("m(0, 0)", kept(1, 1, 0, 0, 0, 0), 0, 0, 1, 0, 0, 0, 0);
        dueAlike("m(2, 2)", kept(1, 1, 0, 0, 0, 1), 0, 1, 1, 0, 0, 0, 0);
    }

    static void promise19_ofTheSameKindButNoMultiple() {
        dueAlike("circles", kept(-4, 0, 0, 1, 0, 1), 0, -4, 0, 0, 2, 0, 2);
    }
}
