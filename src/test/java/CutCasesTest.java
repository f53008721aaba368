/** Promises 15 to 17, section, meets and line, case by case. */
public final class CutCasesTest {
    private static final long NOTHING = Checks.NOTHING;

    public static void main(String[] args) throws IllegalAccessException {
        Cases.run(CutCasesTest.class);
    }

    private static final int[] BEYOND_10 = {-11, 11, Refusals.LEAST, Refusals.MOST};
    private static final int[] BEYOND_20 = {-21, 21, Refusals.LEAST, Refusals.MOST};
    private static final int[] ANY = {
        Refusals.LEAST, -65536, -21, -20, -1, 0, 1, 20, 21, 65536, Refusals.MOST,
    };

    private static ConicKinds ball() {
        return Checks.space(-1, 0, 0, 0, 1, 0, 0, 1, 0, 1);
    }

    private static ConicKinds saddle() {
        return Checks.space(0, 0, 0, -1, 1, 0, 0, -1, 0, 0);
    }

    // ---- promise 15: section

    static void promise15_kind0_noPoint() {
        Checks.due("ball", ball().section(0, 0, 1, 2), 0);
        Checks.due("a cylinder beside", Checks.space(-1, 0, 0, 0, 1, 0, 0, 1, 0, 0).section(1, 0, 0, 2), 0);
        Checks.due("a parallel plane", Checks.space(0, 0, 0, 1, 0, 0, 0, 0, 0, 0).section(0, 0, 1, 2), 0);
    }

    static void promise15_kind1_aPoint() {
        Checks.due("ball", ball().section(0, 0, 1, 1), 1);
        Checks.due("a cone's tip", Checks.space(0, 0, 0, 0, 1, 0, 0, 1, 0, -1).section(0, 0, 1, 0), 1);
    }

    static void promise15_kind2_anEllipse() {
        Checks.due("ball", ball().section(0, 0, 1, 0), 2);
        Checks.due("ball, skew", ball().section(10, 10, 10, 10), 2);
    }

    static void promise15_kind3_aHyperbola() {
        Checks.due("saddle", saddle().section(0, 0, 1, 1), 3);
        Checks.due("saddle", saddle().section(0, 0, 1, -1), 3);
    }

    static void promise15_kind4_aParabola() {
        Checks.due("saddle", saddle().section(1, 0, 0, 1), 4);
        Checks.due("saddle", saddle().section(0, 1, 0, -10), 4);
    }

    static void promise15_kind5_crossingLines() {
        Checks.due("saddle", saddle().section(0, 0, 1, 0), 5);
        Checks.due("crossing planes", Checks.space(0, 0, 0, 0, 1, 0, 0, -1, 0, 0).section(0, 0, 1, 5), 5);
    }

    static void promise15_kind6_parallelLines() {
        Checks.due("cylinder", Checks.space(-1, 0, 0, 0, 1, 0, 0, 1, 0, 0).section(1, 0, 0, 0), 6);
        Checks.due("crossing planes", Checks.space(0, 0, 0, 0, 1, 0, 0, -1, 0, 0).section(1, 0, 0, 5), 6);
    }

    static void promise15_kind7_aLine() {
        Checks.due("saddle", saddle().section(1, -1, 0, 7), 7);
        Checks.due("a plane", Checks.space(0, 0, 0, 1, 0, 0, 0, 0, 0, 0).section(1, 0, 0, 0), 7);
    }

    static void promise15_kind8_allPoints() {
        Checks.due("all 0", Checks.space(0, 0, 0, 0, 0, 0, 0, 0, 0, 0).section(1, 0, 0, 0), 8);
        Checks.due("crossing planes", Checks.space(0, 0, 0, 0, 1, 0, 0, -1, 0, 0).section(1, -1, 0, 0), 8);
        Checks.due("a plane", Checks.space(0, 0, 0, 1, 0, 0, 0, 0, 0, 0).section(0, 0, 10, 0), 8);
        Checks.due("a plane told twice", Checks.space(1, 1, 1, 1, 1, 1, 1, 1, 1, 1).section(1, 1, 1, -1), 8);
    }

    static void promise15_kind9_aLineToldTwice() {
        Checks.due("cone", Checks.space(0, 0, 0, 0, 1, 0, 0, 1, 0, -1).section(1, 0, 1, 0), 9);
        Checks.due("cylinder", Checks.space(-1, 0, 0, 0, 1, 0, 0, 1, 0, 0).section(1, 0, 0, 1), 9);
    }

    static void promise15_d2IsRefused() {
        Refusals.refused("section(1, 0, 0, 0)", 2, -3, c -> c.section(1, 0, 0, 0));
        Refusals.refused("section(10, 10, 10, 10)", 2, -3, c -> c.section(10, 10, 10, 10));
        Refusals.unchanged("form all 0", new ConicKinds(), -3, c -> c.section(1, 1, 1, 1));
    }

    static void promise15_d2IsNamedBeforeTheBounds() {
        for (int v : BEYOND_10) {
            Refusals.refused("a " + v, 2, -3, c -> c.section(v, 1, 1, 1));
            Refusals.refused("b " + v, 2, -3, c -> c.section(1, v, 1, 1));
            Refusals.refused("c " + v, 2, -3, c -> c.section(1, 1, v, 1));
            Refusals.refused("e " + v, 2, -3, c -> c.section(1, 1, 1, v));
        }
        Refusals.refused("a, b, c all 0", 2, -3, c -> c.section(0, 0, 0, 1));
    }

    // The ball is met at 10 / 10 in one point, at 9 / 10 in a circle, at 10 / 9 not at all.
    static void promise15_aAtMinus10AndAt10IsTaken() {
        Checks.due("10 x = 10", ball().section(10, 0, 0, 10), 1);
        Checks.due("-10 x = 10", ball().section(-10, 0, 0, 10), 1);
        Checks.due("10 x = 9", ball().section(10, 0, 0, 9), 2);
        Checks.due("9 x = 10", ball().section(9, 0, 0, 10), 0);
    }

    static void promise15_bAtMinus10AndAt10IsTaken() {
        Checks.due("10 y = 10", ball().section(0, 10, 0, 10), 1);
        Checks.due("-10 y = 10", ball().section(0, -10, 0, 10), 1);
        Checks.due("10 y = 9", ball().section(0, 10, 0, 9), 2);
        Checks.due("9 y = 10", ball().section(0, 9, 0, 10), 0);
    }

    static void promise15_cAtMinus10AndAt10IsTaken() {
        Checks.due("10 z = 10", ball().section(0, 0, 10, 10), 1);
        Checks.due("-10 z = 10", ball().section(0, 0, -10, 10), 1);
        Checks.due("10 z = 9", ball().section(0, 0, 10, 9), 2);
        Checks.due("9 z = 10", ball().section(0, 0, 9, 10), 0);
    }

    static void promise15_eAtMinus10AndAt10IsTaken() {
        Checks.due("z = 10", Checks.space(-20, 0, 0, 1, 1, 0, 0, 1, 0, 0).section(0, 0, 1, 10), 1);
        Checks.due("z = 9", Checks.space(-20, 0, 0, 1, 1, 0, 0, 1, 0, 0).section(0, 0, 1, 9), 2);
        Checks.due("z = -10", Checks.space(-20, 0, 0, -1, 1, 0, 0, 1, 0, 0).section(0, 0, 1, -10), 1);
        Checks.due("z = -9", Checks.space(-20, 0, 0, -1, 1, 0, 0, 1, 0, 0).section(0, 0, 1, -9), 2);
    }

    static void promise15_aBeyond10IsRefused() {
        for (int a : BEYOND_10) {
            Refusals.refused("section, a " + a, 3, -2, c -> c.section(a, 1, 1, 1));
        }
    }

    static void promise15_bBeyond10IsRefused() {
        for (int b : BEYOND_10) {
            Refusals.refused("section, b " + b, 3, -2, c -> c.section(1, b, 1, 1));
        }
    }

    static void promise15_cBeyond10IsRefused() {
        for (int c3 : BEYOND_10) {
            Refusals.refused("section, c " + c3, 3, -2, c -> c.section(1, 1, c3, 1));
        }
    }

    static void promise15_eBeyond10IsRefused() {
        for (int e : BEYOND_10) {
            Refusals.refused("section, e " + e, 3, -2, c -> c.section(1, 1, 1, e));
        }
    }

    static void promise15_aBCAll0IsRefused() {
        for (int e : new int[] {-10, -1, 0, 1, 10, 11, Refusals.LEAST}) {
            Refusals.refused("section(0, 0, 0, " + e + ")", 3, -2, c -> c.section(0, 0, 0, e));
        }
    }

    static void promise15_oneOfABCIsEnough() {
        Checks.due("x = 1", ball().section(1, 0, 0, 1), 1);
        Checks.due("y = 1", ball().section(0, 1, 0, 1), 1);
        Checks.due("z = 1", ball().section(0, 0, 1, 1), 1);
        Checks.due("-x = 1", ball().section(-1, 0, 0, 1), 1);
    }

    static void promise15_theWholeRowTimesAFactorIsTheSamePlane() {
        for (int factor : new int[] {-5, -1, 1, 5}) {
            ConicKinds conic = Checks.space(-9, 0, 0, 0, 1, 0, 0, 1, 0, 1);
            Checks.due("x + 2 y = 2", conic.section(factor, 2 * factor, 0, 2 * factor), 2);
            Checks.due("x = 1", Checks.space(-1, 0, 0, 0, 1, 0, 0, 1, 0, 0).section(factor, 0, 0, factor), 9);
        }
    }

    static void promise15_largest() {
        ConicKinds twice = Checks.space(20, 20, 20, 20, 20, 20, 20, 20, 20, 20);
        Checks.due("all 20", twice.section(10, 10, 10, -10), 8);
        Checks.due("all 20, beside", twice.section(10, 10, 10, 10), 0);
        Checks.due("all 20, across", twice.section(10, -10, 10, 10), 9);
        ConicKinds other = Checks.space(20, 20, 20, 20, 20, -20, -20, 20, -20, 20);
        Checks.due("10, 9, 8, 7", other.section(10, 9, 8, 7), Reference.section(
                new long[][] {{20, 20, 20, 20}, {20, 20, -20, -20}, {20, -20, 20, -20}, {20, -20, -20, 20}},
                new long[] {10, 9, 8}, 7));
    }

    // ---- promise 16: meets

    private static ConicKinds circle(int square) {
        return Checks.plane(-square, 0, 0, 1, 0, 1);
    }

    static void promise16_0_none() {
        Checks.due("beside", circle(4).meets(3, 0, 0, 0, 1, 0), 0);
        Checks.due("asymptote", Checks.plane(-1, 0, 0, 1, 0, -1).meets(0, 0, 0, 1, 1, 0), 0);
        Checks.due("a number alone", Checks.plane(1, 0, 0, 0, 0, 0).meets(0, 0, 0, 1, 1, 0), 0);
        Checks.due("parallel to a line", Checks.plane(0, 1, 0, 0, 0, 0).meets(1, 0, 0, 0, 1, 0), 0);
    }

    static void promise16_1_one() {
        Checks.due("touching", circle(4).meets(2, 0, 0, 0, 1, 0), 1);
        Checks.due("parallel to an asymptote",
                Checks.plane(-1, 0, 0, 1, 0, -1).meets(1, 0, 0, 1, 1, 0), 1);
        Checks.due("a line", Checks.plane(0, 1, 0, 0, 0, 0).meets(1, 0, 0, 1, 1, 0), 1);
        Checks.due("where lines cross", Checks.plane(0, 0, 0, 1, 0, -1).meets(0, 0, 0, 1, 0, 0), 1);
        Checks.due("along a parabola's axis", Checks.plane(0, 0, 1, 1, 0, 0).meets(5, 0, 0, 0, 1, 0), 1);
    }

    static void promise16_2_two() {
        Checks.due("across", circle(4).meets(0, 0, 0, 1, 1, 0), 2);
        Checks.due("across, no whole numbers", circle(3).meets(1, 0, 0, 0, 1, 0), 2);
        Checks.due("turned", Checks.plane(4, 0, 0, -1, 0, -1).meets(0, 0, 0, 1, 1, 0), 2);
    }

    static void promise16_3_allOfIt() {
        Checks.due("all 0", new ConicKinds().meets(0, 0, 0, 1, 0, 0), 3);
        Checks.due("one of two lines", Checks.plane(0, 0, 0, 1, 0, -1).meets(3, 3, 0, -2, -2, 0), 3);
        Checks.due("on one piece",
                Checks.space(-1, 0, 0, 0, 1, 0, 0, 1, 0, -1).meets(1, 0, 0, 0, 1, 1), 3);
    }

    static void promise16_theLineGoesThroughTheSecondPoint() {
        Checks.due("2, 5 and 2, 2", circle(4).meets(2, 5, 0, 0, -3, 0), 1);
        Checks.due("-20, 19 and 0, -1", circle(4).meets(-20, 19, 0, 20, -20, 0), 2);
    }

    static void promise16_pointAtMinus20AndAt20IsTaken() {
        ConicKinds conic = Checks.plane(20, -1, 0, 0, 0, 1);
        Checks.due("y y = 2 x - 20 at 20", conic.meets(20, 0, 0, 0, 1, 0), 2);
        Checks.due("y y = 2 x - 20 at -20", conic.meets(-20, 0, 0, 0, 1, 0), 0);
        Checks.due("y at 20", conic.meets(10, 20, 0, 0, 1, 0), 1);
        Checks.due("y at -20", conic.meets(10, -20, 0, 0, 1, 0), 1);
        ConicKinds body = Checks.space(20, 0, 0, -1, 1, 0, 0, 1, 0, 0);
        Checks.due("z at 20", body.meets(0, 0, 20, 1, 0, 0), 2);
        Checks.due("z at -20", body.meets(0, 0, -20, 1, 0, 0), 0);
    }

    static void promise16_stepAtMinus20AndAt20IsTaken() {
        Checks.due("20, 0", circle(4).meets(-20, 2, 0, 20, 0, 0), 1);
        Checks.due("-20, 0", circle(4).meets(20, 2, 0, -20, 0, 0), 1);
        Checks.due("0, 20", circle(4).meets(2, -20, 0, 0, 20, 0), 1);
        Checks.due("0, -20", circle(4).meets(2, 20, 0, 0, -20, 0), 1);
        Checks.due("0, 0, 20", ball().meets(1, 0, 0, 0, 0, 20), 1);
        Checks.due("0, 0, -20", ball().meets(1, 0, 0, 0, 0, -20), 1);
    }

    static void promise16_xBeyond20IsRefused() {
        for (int x : BEYOND_20) {
            Refusals.refusedInBoth("meets, x " + x, -2, c -> c.meets(x, 0, 0, 1, 1, 1));
        }
    }

    static void promise16_yBeyond20IsRefused() {
        for (int y : BEYOND_20) {
            Refusals.refusedInBoth("meets, y " + y, -2, c -> c.meets(0, y, 0, 1, 1, 1));
        }
    }

    static void promise16_zBeyond20IsRefusedWithD3() {
        for (int z : BEYOND_20) {
            Refusals.refused("meets, z " + z, 3, -2, c -> c.meets(0, 0, z, 1, 1, 1));
        }
    }

    static void promise16_uBeyond20IsRefused() {
        for (int u : BEYOND_20) {
            Refusals.refusedInBoth("meets, u " + u, -2, c -> c.meets(0, 0, 0, u, 1, 1));
        }
    }

    static void promise16_vBeyond20IsRefused() {
        for (int v : BEYOND_20) {
            Refusals.refusedInBoth("meets, v " + v, -2, c -> c.meets(0, 0, 0, 1, v, 1));
        }
    }

    static void promise16_wBeyond20IsRefusedWithD3() {
        for (int w : BEYOND_20) {
            Refusals.refused("meets, w " + w, 3, -2, c -> c.meets(0, 0, 0, 1, 1, w));
        }
    }

    static void promise16_zAndWDoNotCountWithD2() {
        for (int z : ANY) {
            for (int w : ANY) {
                Checks.due("two, " + z + ", " + w, circle(4).meets(0, 0, z, 1, 1, w), 2);
                Checks.due("one, " + z + ", " + w, circle(4).meets(2, 0, z, 0, 1, w), 1);
            }
        }
    }

    static void promise16_stepAll0IsRefused() {
        for (int x : new int[] {-20, 0, 1, 20}) {
            Refusals.refusedInBoth("meets, no step", -2, c -> c.meets(x, x, x, 0, 0, 0));
        }
    }

    static void promise16_wAloneIsAStepOnlyWithD3() {
        for (int w : new int[] {-20, 1, 20, Refusals.LEAST, Refusals.MOST}) {
            Refusals.refused("meets, w alone " + w, 2, -2, c -> c.meets(1, 1, 1, 0, 0, w));
        }
        Checks.due("0, 0, 1", ball().meets(0, 0, 0, 0, 0, 1), 2);
    }

    static void promise16_oneOfUVIsEnough() {
        Checks.due("1, 0", circle(4).meets(0, 0, 0, 1, 0, 0), 2);
        Checks.due("0, 1", circle(4).meets(0, 0, 0, 0, 1, 0), 2);
        Checks.due("1, 0, 0", ball().meets(0, 0, 0, 1, 0, 0), 2);
        Checks.due("0, 1, 0", ball().meets(0, 0, 0, 0, 1, 0), 2);
    }

    static void promise16_largest() {
        ConicKinds twice = Checks.space(20, 20, 20, 20, 20, 20, 20, 20, 20, 20);
        Checks.due("across", twice.meets(20, 20, 20, 20, 20, 20), 1);
        Checks.due("along, beside", twice.meets(20, 20, 20, 20, -20, 0), 0);
        Checks.due("along, on it", twice.meets(19, -20, 0, 20, -20, 0), 3);
    }

    // ---- promise 17: line

    private static void dueLine(ConicKinds conic, int k, long... row) {
        for (int i = 0; i < 3; i++) {
            Checks.due("line(" + k + ", " + i + ")", conic.line(k, i), row[i]);
        }
    }

    private static void dueNoLine(ConicKinds conic, int k) {
        for (int i = 0; i < 3; i++) {
            int number = i;
            Refusals.unchanged("line(" + k + ", " + i + ")", conic, NOTHING, c -> c.line(k, number));
        }
    }

    private static ConicKinds crossing() {
        return Checks.plane(0, 0, 0, 2, 0, -8);
    }

    private static ConicKinds parallel() {
        return Checks.plane(-9, 0, 0, 4, 0, 0);
    }

    private static ConicKinds single() {
        return Checks.plane(-6, 3, -6, 0, 0, 0);
    }

    private static ConicKinds twice() {
        return Checks.plane(-2, 4, -6, -8, 12, -18);
    }

    private static ConicKinds[] withLines() {
        return new ConicKinds[] {crossing(), parallel(), single(), twice()};
    }

    static void promise17_kind5_kAt0AndAt1IsTaken() {
        dueLine(crossing(), 0, 0, 1, -2);
        dueLine(crossing(), 1, 0, 1, 2);
    }

    static void promise17_kind6_kAt0AndAt1IsTaken() {
        dueLine(parallel(), 0, 3, -2, 0);
        dueLine(parallel(), 1, 3, 2, 0);
    }

    static void promise17_kind7_kAt0IsTaken() {
        dueLine(single(), 0, 1, -1, 2);
    }

    static void promise17_kind9_kAt0IsTaken() {
        dueLine(twice(), 0, 1, -2, 3);
    }

    static void promise17_kind9_linesThroughFewPlaces() {
        for (int v : new int[] {-20, -1, 1, 20}) {
            dueLine(Checks.plane(0, 0, 0, v, 0, 0), 0, 0, 1, 0);
            dueLine(Checks.plane(0, 0, 0, 0, 0, v), 0, 0, 0, 1);
            dueLine(Checks.plane(v, v, 0, v, 0, 0), 0, 1, 1, 0);
            dueLine(Checks.plane(v, 0, -v, 0, 0, v), 0, 1, 0, -1);
            dueLine(Checks.plane(0, 0, 0, v, -v, v), 0, 0, 1, -1);
        }
    }

    static void promise17_kBelow0IsNothing() {
        for (ConicKinds conic : withLines()) {
            for (int k : new int[] {-1, -2, Refusals.LEAST}) {
                dueNoLine(conic, k);
            }
        }
    }

    static void promise17_kAbove1IsNothing() {
        for (ConicKinds conic : withLines()) {
            for (int k : new int[] {2, 3, Refusals.MOST}) {
                dueNoLine(conic, k);
            }
        }
    }

    static void promise17_kind7_kAt1IsNothing() {
        dueNoLine(single(), 1);
    }

    static void promise17_kind9_kAt1IsNothing() {
        dueNoLine(twice(), 1);
    }

    static void promise17_iBelow0IsNothing() {
        for (ConicKinds conic : withLines()) {
            for (int i : new int[] {-1, -2, Refusals.LEAST}) {
                Refusals.unchanged("line(0, " + i + ")", conic, NOTHING, c -> c.line(0, i));
            }
        }
    }

    static void promise17_iAbove2IsNothing() {
        for (ConicKinds conic : withLines()) {
            for (int i : new int[] {3, 4, Refusals.MOST}) {
                Refusals.unchanged("line(0, " + i + ")", conic, NOTHING, c -> c.line(0, i));
            }
        }
    }

    static void promise17_anotherKindIsNothing() {
        int[][] others = {
            {1, 0, 0, 1, 0, 1, 0}, {1, 0, 0, 1, 0, 0, 0}, {1, 0, 0, 0, 0, 0, 0}, {0, 0, 0, 1, 0, 1, 1},
            {-4, 0, 0, 1, 0, 1, 2}, {-1, 0, 0, 1, 0, -1, 3}, {0, 0, 1, 1, 0, 0, 4}, {0, 0, 0, 0, 0, 0, 8},
        };
        for (int[] m : others) {
            ConicKinds conic = Checks.plane(m[0], m[1], m[2], m[3], m[4], m[5]);
            Checks.due("kind()", conic.kind(), m[6]);
            dueNoLine(conic, 0);
            dueNoLine(conic, 1);
        }
    }

    static void promise17_d3IsNothing() {
        int[][] forms = {
            {0, 0, 0, 0, 2, 0, 0, -8, 0, 0}, {-9, 0, 0, 0, 4, 0, 0, 0, 0, 0}, {-6, 3, -6, 0, 0, 0, 0, 0, 0, 0},
            {0, 0, 0, 0, 1, 0, 0, 0, 0, 0}, {0, 0, 0, 0, 1, 0, 0, 1, 0, 0}, {0, 0, 0, 0, 0, 0, 0, 0, 0, 0},
        };
        for (int[] m : forms) {
            dueNoLine(Checks.space(m), 0);
            dueNoLine(Checks.space(m), 1);
        }
    }

    static void promise17_kind5_noSuchRowsIsNothing() {
        for (int v : new int[] {-2, -3, -5, -8, -20}) {
            ConicKinds conic = Checks.plane(0, 0, 0, 1, 0, v);
            Checks.due("kind()", conic.kind(), 5);
            dueNoLine(conic, 0);
            dueNoLine(conic, 1);
        }
    }

    static void promise17_kind6_noSuchRowsIsNothing() {
        for (int v : new int[] {-2, -3, -5, -8, -20}) {
            ConicKinds conic = Checks.plane(v, 0, 0, 1, 0, 0);
            Checks.due("kind()", conic.kind(), 6);
            dueNoLine(conic, 0);
            dueNoLine(conic, 1);
        }
    }

    static void promise17_rowsWhereThereAreNoWholePoints() {
        dueLine(Checks.plane(0, 0, 0, 4, 0, -9), 0, 0, 2, -3);
        dueLine(Checks.plane(0, 0, 0, 4, 0, -9), 1, 0, 2, 3);
        dueLine(Checks.plane(-1, 0, 0, 16, 0, 0), 0, 1, -4, 0);
        dueLine(Checks.plane(-1, 0, 0, 16, 0, 0), 1, 1, 4, 0);
        // 2 x x - 8 falls by 2 and a square.
        dueLine(Checks.plane(-8, 0, 0, 2, 0, 0), 0, 2, -1, 0);
    }

    // The determinant of A is -24, -36, -45, and of these only 36 is a square.
    static void promise17_goesOverFromNoSuchRowsToRows() {
        dueNoLine(Checks.plane(0, 0, 0, 20, 2, -1), 0);
        dueLine(Checks.plane(0, 0, 0, 20, 4, -1), 0, 0, 2, 1);
        dueLine(Checks.plane(0, 0, 0, 20, 4, -1), 1, 0, 10, -1);
        dueNoLine(Checks.plane(0, 0, 0, 20, 5, -1), 0);
    }

    static void promise17_order_theFirstPlaceDecides() {
        // 2 (x + 2 y - 3) (3 x - y): 0 is less than 3.
        ConicKinds conic = Checks.plane(0, -9, 3, 6, 5, -4);
        dueLine(conic, 0, 0, 3, -1);
        dueLine(conic, 1, 3, -1, -2);
    }

    static void promise17_order_theSecondPlaceDecides() {
        // 2 (1 + x + 5 y) (1 - x + y)
        ConicKinds conic = Checks.plane(2, 0, 6, -2, -4, 10);
        dueLine(conic, 0, 1, -1, 1);
        dueLine(conic, 1, 1, 1, 5);
    }

    static void promise17_order_theThirdPlaceDecides() {
        // 2 (1 + x + y) (1 + x - y)
        ConicKinds conic = Checks.plane(2, 2, 0, 2, 0, -2);
        dueLine(conic, 0, 1, 1, -1);
        dueLine(conic, 1, 1, 1, 1);
    }

    static void promise17_order_theSameForTheTurnedForm() {
        dueLine(Checks.plane(0, 9, -3, -6, -5, 4), 0, 0, 3, -1);
        dueLine(Checks.plane(0, 9, -3, -6, -5, 4), 1, 3, -1, -2);
        dueLine(Checks.plane(-2, -2, 0, -2, 0, 2), 0, 1, 1, -1);
        dueLine(Checks.plane(-2, -2, 0, -2, 0, 2), 1, 1, 1, 1);
    }

    static void promise17_order_axes() {
        for (int v : new int[] {-20, -7, -1, 1, 7, 20}) {
            ConicKinds conic = Checks.plane(0, 0, 0, 0, v, 0);
            dueLine(conic, 0, 0, 0, 1);
            dueLine(conic, 1, 0, 1, 0);
        }
    }

    static void promise17_order_anAxisAndAnotherLine() {
        for (int v : new int[] {-1, 1}) {
            // 2 y (1 + x), 2 x (1 + y), 2 x (1 + x), 2 y (1 + y)
            dueLine(Checks.plane(0, 0, v, 0, v, 0), 0, 0, 0, 1);
            dueLine(Checks.plane(0, 0, v, 0, v, 0), 1, 1, 1, 0);
            dueLine(Checks.plane(0, v, 0, 0, v, 0), 0, 0, 1, 0);
            dueLine(Checks.plane(0, v, 0, 0, v, 0), 1, 1, 0, 1);
            dueLine(Checks.plane(0, v, 0, 2 * v, 0, 0), 0, 0, 1, 0);
            dueLine(Checks.plane(0, v, 0, 2 * v, 0, 0), 1, 1, 1, 0);
            dueLine(Checks.plane(0, 0, v, 0, 0, 2 * v), 0, 0, 0, 1);
            dueLine(Checks.plane(0, 0, v, 0, 0, 2 * v), 1, 1, 0, 1);
        }
    }

    static void promise17_withoutDivisor_divisorBelow0() {
        dueLine(Checks.plane(-20, -20, -10, 0, 0, 0), 0, 1, 2, 1);
        dueLine(Checks.plane(0, -20, 20, 0, 0, 0), 0, 0, 1, -1);
        dueLine(Checks.plane(-20, 20, -20, -20, 20, -20), 0, 1, -1, 1);
        dueLine(Checks.plane(0, 0, 0, 0, 0, -20), 0, 0, 0, 1);
    }

    static void promise17_withoutDivisor_aLineHasTwiceM01AndM02() {
        dueLine(Checks.plane(1, 1, 1, 0, 0, 0), 0, 1, 2, 2);
        dueLine(Checks.plane(2, 1, 1, 0, 0, 0), 0, 1, 1, 1);
        dueLine(Checks.plane(-20, 1, 0, 0, 0, 0), 0, 10, -1, 0);
    }

    static void promise17_largest() {
        dueLine(Checks.plane(20, 20, 20, 20, 20, 20), 0, 1, 1, 1);
        dueLine(Checks.plane(0, 0, 0, 20, 0, -20), 0, 0, 1, -1);
        dueLine(Checks.plane(20, 0, 20, -20, 0, 20), 0, 1, -1, 1);
        dueLine(Checks.plane(20, 0, 20, -20, 0, 20), 1, 1, 1, 1);
        // x (20 x + 38 y)
        dueLine(Checks.plane(0, 0, 0, 20, 19, 0), 0, 0, 1, 0);
        dueLine(Checks.plane(0, 0, 0, 20, 19, 0), 1, 0, 10, 19);
        // 20 * 20 + 18 * 18 is no square, 20 * 20 + 15 * 15 is 25 * 25.
        dueNoLine(Checks.plane(0, 0, 0, 20, 18, -20), 0);
        dueLine(Checks.plane(0, 0, 0, 20, 15, -20), 0, 0, 1, 2);
        dueLine(Checks.plane(0, 0, 0, 20, 15, -20), 1, 0, 2, -1);
    }
}
