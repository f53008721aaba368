/** Promises 12 to 14, at, polar and touches, with the term WITHOUT DIVISOR, case by case. */
public final class PointCasesTest {
    private static final long NOTHING = Checks.NOTHING;

    public static void main(String[] args) throws IllegalAccessException {
        Cases.run(PointCasesTest.class);
    }

    private static final int[] BEYOND_1000 = {-1001, 1001, Refusals.LEAST, Refusals.MOST};
    private static final int[] BEYOND_20 = {-21, 21, Refusals.LEAST, Refusals.MOST};
    private static final int[] ANY = {
        Refusals.LEAST, -1001, -1000, -21, -20, 0, 20, 21, 1000, 1001, Refusals.MOST,
    };

    /** 20 - 2 x, or y or z: it is 0 at 1000 / 100, and above 0 before that. */
    private static ConicKinds upTo10(int d, int axis) {
        ConicKinds conic = new ConicKinds();
        conic.dimension(d);
        conic.put(0, 0, 20);
        conic.put(0, axis, -1);
        return conic;
    }

    // ---- promise 12: at

    static void promise12_above0Is2_0Is1_below0Is0() {
        ConicKinds conic = Checks.plane(-1, 0, 0, 1, 0, 1);
        Checks.due("outside", conic.at(4, 4, 0, 5), 2);
        Checks.due("on it", conic.at(3, 4, 0, 5), 1);
        Checks.due("within", conic.at(3, 3, 0, 5), 0);
        ConicKinds turned = Checks.plane(1, 0, 0, -1, 0, -1);
        Checks.due("outside, turned", turned.at(4, 4, 0, 5), 0);
        Checks.due("on it, turned", turned.at(3, 4, 0, 5), 1);
        Checks.due("within, turned", turned.at(3, 3, 0, 5), 2);
    }

    static void promise12_formAll0Is1Everywhere() {
        Checks.due("d = 2", new ConicKinds().at(1000, -1000, 0, 100), 1);
        Checks.due("d = 3", Checks.space(0, 0, 0, 0, 0, 0, 0, 0, 0, 0).at(1000, -1000, 1000, 1), 1);
    }

    static void promise12_downAt1AndAt100IsTaken() {
        ConicKinds conic = Checks.plane(-1, 0, 0, 1, 0, 1);
        Checks.due("at(1, 0, 0, 1)", conic.at(1, 0, 0, 1), 1);
        Checks.due("at(100, 0, 0, 100)", conic.at(100, 0, 0, 100), 1);
        Checks.due("at(100, 1, 0, 100)", conic.at(100, 1, 0, 100), 2);
        Checks.due("at(99, 1, 0, 100)", conic.at(99, 1, 0, 100), 0);
    }

    static void promise12_downBelow1IsRefused() {
        for (int down : new int[] {0, -1, -100, Refusals.LEAST}) {
            Refusals.refusedInBoth("at, down " + down, -2, c -> c.at(1, 1, 1, down));
        }
    }

    static void promise12_downAbove100IsRefused() {
        for (int down : new int[] {101, 357, 1000, Refusals.MOST}) {
            Refusals.refusedInBoth("at, down " + down, -2, c -> c.at(1, 1, 1, down));
        }
    }

    static void promise12_xAtMinus1000AndAt1000IsTaken() {
        for (int d = 2; d <= 3; d++) {
            ConicKinds conic = upTo10(d, 1);
            Checks.due("x at 999", conic.at(999, 0, 0, 100), 2);
            Checks.due("x at 1000", conic.at(1000, 0, 0, 100), 1);
            conic.put(0, 1, 1);
            Checks.due("x at -999", conic.at(-999, 0, 0, 100), 2);
            Checks.due("x at -1000", conic.at(-1000, 0, 0, 100), 1);
        }
    }

    static void promise12_yAtMinus1000AndAt1000IsTaken() {
        for (int d = 2; d <= 3; d++) {
            ConicKinds conic = upTo10(d, 2);
            Checks.due("y at 999", conic.at(0, 999, 0, 100), 2);
            Checks.due("y at 1000", conic.at(0, 1000, 0, 100), 1);
            conic.put(0, 2, 1);
            Checks.due("y at -999", conic.at(0, -999, 0, 100), 2);
            Checks.due("y at -1000", conic.at(0, -1000, 0, 100), 1);
        }
    }

    static void promise12_zAtMinus1000AndAt1000IsTaken() {
        ConicKinds conic = upTo10(3, 3);
        Checks.due("z at 999", conic.at(0, 0, 999, 100), 2);
        Checks.due("z at 1000", conic.at(0, 0, 1000, 100), 1);
        conic.put(0, 3, 1);
        Checks.due("z at -999", conic.at(0, 0, -999, 100), 2);
        Checks.due("z at -1000", conic.at(0, 0, -1000, 100), 1);
    }

    static void promise12_xBeyond1000IsRefused() {
        for (int x : BEYOND_1000) {
            Refusals.refusedInBoth("at, x " + x, -2, c -> c.at(x, 0, 0, 1));
        }
    }

    static void promise12_yBeyond1000IsRefused() {
        for (int y : BEYOND_1000) {
            Refusals.refusedInBoth("at, y " + y, -2, c -> c.at(0, y, 0, 1));
        }
    }

    static void promise12_zBeyond1000IsRefusedWithD3() {
        for (int z : BEYOND_1000) {
            Refusals.refused("at, z " + z, 3, -2, c -> c.at(0, 0, z, 1));
        }
    }

    static void promise12_zDoesNotCountWithD2() {
        ConicKinds conic = Checks.plane(-1, 0, 0, 1, 0, 1);
        for (int z : ANY) {
            Checks.due("on it, z " + z, conic.at(3, 4, z, 5), 1);
            Checks.due("within, z " + z, conic.at(3, 3, z, 5), 0);
        }
    }

    static void promise12_severalWrongAtOnceIsRefused() {
        Refusals.refusedInBoth("at(1001, -1001, 1001, 0)", -2, c -> c.at(1001, -1001, 1001, 0));
        Refusals.refusedInBoth("at(-1001, 0, 0, 101)", -2, c -> c.at(-1001, 0, 0, 101));
    }

    static void promise12_largest() {
        ConicKinds conic = Checks.plane(20, 20, 20, 20, 20, 20);
        Checks.due("1000, 1000", conic.at(1000, 1000, 0, 1), 2);
        Checks.due("1000, -1000 by 100", conic.at(1000, -1000, 0, 100), 2);
        Checks.due("on the line", conic.at(900, -1000, 0, 100), 1);
        ConicKinds body = Checks.space(-20, -20, -20, -20, -20, -20, -20, -20, -20, -20);
        Checks.due("1000, 1000, 1000", body.at(1000, 1000, 1000, 1), 0);
        Checks.due("on the plane", body.at(1000, -1000, -100, 100), 1);
        Checks.due("beside the plane", body.at(1000, -1000, -99, 100), 0);
    }

    // ---- promise 13: polar

    private static void duePolar(ConicKinds conic, int x, int y, int z, int down, long... row) {
        for (int i = 0; i < row.length; i++) {
            Checks.due("number " + i, conic.polar(x, y, z, down, i), row[i]);
        }
    }

    static void promise13_iAt0AndAtDIsTaken() {
        duePolar(Checks.plane(-4, 0, 0, 1, 0, 1), 6, 3, 0, 2, 8, -6, -3);
        duePolar(Checks.space(-9, 0, 0, 0, 1, 0, 0, 1, 0, 1), 6, -3, 9, 2, 6, -2, 1, -3);
    }

    static void promise13_iBelow0IsNothing() {
        for (int i : new int[] {-1, -2, Refusals.LEAST}) {
            Refusals.refusedInBoth("polar, i " + i, NOTHING, c -> c.polar(1, 1, 1, 1, i));
        }
    }

    static void promise13_iAboveDIsNothing() {
        Refusals.refused("polar, i 3", 2, NOTHING, c -> c.polar(1, 1, 1, 1, 3));
        for (int i : new int[] {4, 5, Refusals.MOST}) {
            Refusals.refusedInBoth("polar, i " + i, NOTHING, c -> c.polar(1, 1, 1, 1, i));
        }
    }

    static void promise13_downAt1AndAt100IsTaken() {
        duePolar(Checks.plane(1, 0, 0, 1, 0, 1), 1, 0, 0, 1, 1, 1, 0);
        duePolar(Checks.plane(1, 0, 0, 1, 0, 1), 1, 0, 0, 100, 100, 1, 0);
    }

    static void promise13_downBelow1IsNothing() {
        for (int down : new int[] {0, -1, -100, Refusals.LEAST}) {
            Refusals.refusedInBoth("polar, down " + down, NOTHING, c -> c.polar(1, 1, 1, down, 0));
        }
    }

    static void promise13_downAbove100IsNothing() {
        for (int down : new int[] {101, 357, Refusals.MOST}) {
            Refusals.refusedInBoth("polar, down " + down, NOTHING, c -> c.polar(1, 1, 1, down, 0));
        }
    }

    static void promise13_numbersAtMinus1000AndAt1000AreTaken() {
        duePolar(Checks.plane(1, 0, 0, 1, 0, 1), 1000, -1000, 0, 1, 1, 1000, -1000);
        duePolar(Checks.plane(1, 0, 0, 1, 0, 1), -1000, 1000, 0, 1, 1, -1000, 1000);
        ConicKinds body = Checks.space(1, 0, 0, 0, 1, 0, 0, 1, 0, 1);
        duePolar(body, 1000, -1000, 1000, 1, 1, 1000, -1000, 1000);
        duePolar(body, -1000, 1000, -1000, 1, 1, -1000, 1000, -1000);
    }

    static void promise13_xBeyond1000IsNothing() {
        for (int x : BEYOND_1000) {
            Refusals.refusedInBoth("polar, x " + x, NOTHING, c -> c.polar(x, 0, 0, 1, 0));
        }
    }

    static void promise13_yBeyond1000IsNothing() {
        for (int y : BEYOND_1000) {
            Refusals.refusedInBoth("polar, y " + y, NOTHING, c -> c.polar(0, y, 0, 1, 0));
        }
    }

    static void promise13_zBeyond1000IsNothingWithD3() {
        for (int z : BEYOND_1000) {
            Refusals.refused("polar, z " + z, 3, NOTHING, c -> c.polar(0, 0, z, 1, 0));
        }
    }

    static void promise13_zDoesNotCountWithD2() {
        for (int z : ANY) {
            duePolar(Checks.plane(-4, 0, 0, 1, 0, 1), 6, 3, z, 2, 8, -6, -3);
        }
    }

    static void promise13_all0IsNothing() {
        for (int i = 0; i <= 2; i++) {
            int number = i;
            Refusals.unchanged("form all 0", new ConicKinds(), NOTHING, c -> c.polar(1, 2, 3, 4, number));
            Refusals.unchanged("where lines cross", Checks.plane(0, 0, 0, 1, 0, -1), NOTHING,
                    c -> c.polar(0, 0, 0, 1, number));
            Refusals.unchanged("a line told twice", Checks.plane(1, 1, 1, 1, 1, 1), NOTHING,
                    c -> c.polar(-50, -50, 0, 100, number));
        }
        for (int i = 0; i <= 3; i++) {
            int number = i;
            Refusals.unchanged("a cone's tip", Checks.space(0, 0, 0, 0, 1, 0, 0, 1, 0, -1), NOTHING,
                    c -> c.polar(0, 0, 0, 100, number));
        }
    }

    static void promise13_oneNumberNot0IsNotRefused() {
        duePolar(Checks.plane(-4, 0, 0, 1, 0, 1), 0, 0, 0, 100, 1, 0, 0);
        duePolar(Checks.plane(0, 0, 0, 0, 0, -20), 1000, 1, 0, 1, 0, 0, 1);
        duePolar(Checks.space(0, 0, 0, 5, 0, 0, 0, 0, 0, 0), 1, 1, 0, 1, 0, 0, 0, 1);
    }

    static void promise13_severalWrongAtOnceIsNothing() {
        Refusals.refusedInBoth("polar(1001, 0, 0, 0, 4)", NOTHING, c -> c.polar(1001, 0, 0, 0, 4));
        Refusals.unchanged("all are 0 and no such number", new ConicKinds(), NOTHING,
                c -> c.polar(0, 0, 0, 1, 3));
    }

    // ---- the term WITHOUT DIVISOR, at polar

    static void promise13_withoutDivisor_theFirstNot0IsAbove0() {
        duePolar(Checks.plane(-1, 0, 0, 1, 0, 1), 2, -3, 0, 1, 1, -2, 3);
        duePolar(Checks.plane(0, 0, 0, -3, 0, 6), 2, 2, 0, 1, 0, 1, -2);
        duePolar(Checks.plane(0, 0, 0, 0, 0, -1), 0, 7, 0, 1, 0, 0, 1);
        duePolar(Checks.plane(0, 0, 0, 0, 0, -1), 0, -7, 0, 1, 0, 0, 1);
    }

    static void promise13_withoutDivisor_divisorBelow0() {
        duePolar(Checks.plane(-20, 0, 0, -20, 0, -20), 3, 5, 0, 2, 2, 3, 5);
        duePolar(Checks.space(-20, 0, 0, 0, -20, 0, 0, -20, 0, -20), -6, 4, 8, 2, 1, -3, 2, 4);
    }

    static void promise13_withoutDivisor_divisorOfAllNotOfSome() {
        duePolar(Checks.plane(1, 0, 0, 1, 0, 1), 10, 15, 0, 6, 6, 10, 15);
        duePolar(Checks.plane(1, 0, 0, 1, 0, 1), 20, 30, 0, 12, 6, 10, 15);
    }

    static void promise13_withoutDivisor_0sDoNotDivide() {
        duePolar(Checks.plane(1, 0, 0, 0, 0, 1), 5, 50, 0, 100, 2, 0, 1);
        duePolar(Checks.plane(0, 0, 0, 20, 0, 0), 1000, 0, 0, 1, 0, 1, 0);
    }

    static void promise13_largest() {
        duePolar(Checks.plane(20, 20, 20, 20, 20, 19), 1000, 999, 0, 99, 41960, 41960, 40961);
        duePolar(Checks.plane(-20, -20, -20, -20, -20, -19), 1000, 999, 0, 99, 41960, 41960, 40961);
        duePolar(Checks.space(20, 20, 20, 20, 20, 20, 20, 20, 20, 19), 1000, 1000, 997, 100,
                61940, 61940, 61940, 60943);
    }

    // ---- promise 14: touches

    private static final int[] CIRCLE = {-4, 0, 0, 1, 0, 1};
    private static final int[] BALL = {-4, 0, 0, 0, 1, 0, 0, 1, 0, 1};
    private static final int[] CROSSING = {0, 0, 0, 1, 0, -1};
    private static final int[] CONE = {0, 0, 0, 0, 1, 0, 0, 1, 0, -1};

    static void promise14_touchesIs1_notIs0() {
        Checks.due("x = 2", Checks.plane(CIRCLE).touches(-2, 1, 0, 0), 1);
        Checks.due("x = 1", Checks.plane(CIRCLE).touches(-1, 1, 0, 0), 0);
        Checks.due("x = 3", Checks.plane(CIRCLE).touches(-3, 1, 0, 0), 0);
        Checks.due("z = 2", Checks.space(BALL).touches(-2, 0, 0, 1), 1);
        Checks.due("z = 1", Checks.space(BALL).touches(-1, 0, 0, 1), 0);
        Checks.due("z = 3", Checks.space(BALL).touches(-3, 0, 0, 1), 0);
    }

    static void promise14_multiplesOfARowAreTheSame() {
        for (int factor : new int[] {-10, -1, 1, 10}) {
            Checks.due("x = 2", Checks.plane(CIRCLE).touches(-2 * factor, factor, 0, 0), 1);
            Checks.due("x = 1", Checks.plane(CIRCLE).touches(-factor, factor, 0, 0), 0);
        }
    }

    static void promise14_u0AtMinus20AndAt20IsTaken() {
        Checks.due("10 x = 20", Checks.plane(CIRCLE).touches(-20, 10, 0, 0), 1);
        Checks.due("10 x = -20", Checks.plane(CIRCLE).touches(20, 10, 0, 0), 1);
        Checks.due("10 z = 20", Checks.space(BALL).touches(-20, 0, 0, 10), 1);
        Checks.due("10 z = -20", Checks.space(BALL).touches(20, 0, 0, 10), 1);
    }

    // y y = 20 x - 1 has its tip at x = 1 / 20.
    static void promise14_u1AtMinus20AndAt20IsTaken() {
        Checks.due("20 x = 1", Checks.plane(1, -10, 0, 0, 0, 1).touches(-1, 20, 0, 0), 1);
        Checks.due("-20 x = -1", Checks.plane(1, -10, 0, 0, 0, 1).touches(1, -20, 0, 0), 1);
        Checks.due("20 x = 2", Checks.plane(1, -10, 0, 0, 0, 1).touches(-2, 20, 0, 0), 0);
        Checks.due("20 x = 1", Checks.space(1, -10, 0, 0, 0, 0, 0, 1, 0, 1).touches(-1, 20, 0, 0), 1);
        Checks.due("-20 x = -1", Checks.space(1, -10, 0, 0, 0, 0, 0, 1, 0, 1).touches(1, -20, 0, 0), 1);
    }

    static void promise14_u2AtMinus20AndAt20IsTaken() {
        Checks.due("20 y = 1", Checks.plane(1, 0, -10, 1, 0, 0).touches(-1, 0, 20, 0), 1);
        Checks.due("-20 y = -1", Checks.plane(1, 0, -10, 1, 0, 0).touches(1, 0, -20, 0), 1);
        Checks.due("20 y = 1", Checks.space(1, 0, -10, 0, 1, 0, 0, 0, 0, 1).touches(-1, 0, 20, 0), 1);
        Checks.due("-20 y = -1", Checks.space(1, 0, -10, 0, 1, 0, 0, 0, 0, 1).touches(1, 0, -20, 0), 1);
    }

    static void promise14_u3AtMinus20AndAt20IsTaken() {
        Checks.due("20 z = 1", Checks.space(1, 0, 0, -10, 1, 0, 0, 1, 0, 0).touches(-1, 0, 0, 20), 1);
        Checks.due("-20 z = -1", Checks.space(1, 0, 0, -10, 1, 0, 0, 1, 0, 0).touches(1, 0, 0, -20), 1);
    }

    static void promise14_u0Beyond20IsRefused() {
        for (int u : BEYOND_20) {
            Refusals.refusedInBoth("touches, u0 " + u, -2, c -> c.touches(u, 1, 1, 1));
        }
    }

    static void promise14_u1Beyond20IsRefused() {
        for (int u : BEYOND_20) {
            Refusals.refusedInBoth("touches, u1 " + u, -2, c -> c.touches(1, u, 1, 1));
        }
    }

    static void promise14_u2Beyond20IsRefused() {
        for (int u : BEYOND_20) {
            Refusals.refusedInBoth("touches, u2 " + u, -2, c -> c.touches(1, 1, u, 1));
        }
    }

    static void promise14_u3Beyond20IsRefusedWithD3() {
        for (int u : BEYOND_20) {
            Refusals.refused("touches, u3 " + u, 3, -2, c -> c.touches(1, 1, 1, u));
        }
    }

    static void promise14_u3DoesNotCountWithD2() {
        for (int u : ANY) {
            Checks.due("x = 2, u3 " + u, Checks.plane(CIRCLE).touches(-2, 1, 0, u), 1);
            Checks.due("x = 1, u3 " + u, Checks.plane(CIRCLE).touches(-1, 1, 0, u), 0);
        }
    }

    static void promise14_u1ToUdAll0IsRefused() {
        for (int u0 : new int[] {-20, -1, 0, 1, 20}) {
            Refusals.refusedInBoth("touches(" + u0 + ", 0, 0, 0)", -2, c -> c.touches(u0, 0, 0, 0));
        }
    }

    static void promise14_u3AloneIsALineOnlyWithD3() {
        for (int u3 : new int[] {-20, 1, 20, Refusals.LEAST, Refusals.MOST}) {
            Refusals.refused("touches(1, 0, 0, " + u3 + ")", 2, -2, c -> c.touches(1, 0, 0, u3));
        }
        Checks.due("z = -2", Checks.space(BALL).touches(2, 0, 0, 1), 1);
    }

    static void promise14_oneOfU1ToUdIsEnough() {
        Checks.due("x = 0", Checks.plane(CIRCLE).touches(0, 1, 0, 0), 0);
        Checks.due("y = 2", Checks.plane(CIRCLE).touches(-2, 0, 1, 0), 1);
        Checks.due("x = 2", Checks.space(BALL).touches(-2, 1, 0, 0), 1);
        Checks.due("y = 2", Checks.space(BALL).touches(-2, 0, 1, 0), 1);
    }

    static void promise14_determinantOfAllIs0IsRefused() {
        Refusals.unchanged("crossing lines", Checks.plane(CROSSING), -3, c -> c.touches(0, 1, 1, 0));
        Refusals.unchanged("all 0", new ConicKinds(), -3, c -> c.touches(0, 1, 1, 0));
        Refusals.unchanged("a line told twice", Checks.plane(1, 1, 1, 1, 1, 1), -3, c -> c.touches(1, 1, 1, 0));
        Refusals.unchanged("a line", Checks.plane(0, 1, 0, 0, 0, 0), -3, c -> c.touches(0, 1, 0, 0));
        Refusals.unchanged("cone", Checks.space(CONE), -3, c -> c.touches(0, 1, 0, 1));
    }

    static void promise14_boundsAreNamedBeforeTheDeterminant() {
        for (int u : BEYOND_20) {
            Refusals.unchanged("crossing lines, u0", Checks.plane(CROSSING), -2, c -> c.touches(u, 1, 1, 0));
            Refusals.unchanged("crossing lines, u2", Checks.plane(CROSSING), -2, c -> c.touches(1, 1, u, 0));
            Refusals.unchanged("cone, u3", Checks.space(CONE), -2, c -> c.touches(1, 1, 1, u));
        }
    }

    static void promise14_noLineIsNamedBeforeTheDeterminant() {
        Refusals.unchanged("crossing lines", Checks.plane(CROSSING), -2, c -> c.touches(1, 0, 0, 1));
        Refusals.unchanged("cone", Checks.space(CONE), -2, c -> c.touches(1, 0, 0, 0));
    }

    static void promise14_aPointInfinitelyFar() {
        Checks.due("asymptote", Checks.plane(-1, 0, 0, 1, 0, -1).touches(0, 1, 1, 0), 1);
        Checks.due("other asymptote", Checks.plane(-1, 0, 0, 1, 0, -1).touches(0, 1, -1, 0), 1);
        Checks.due("beside it", Checks.plane(-1, 0, 0, 1, 0, -1).touches(1, 1, -1, 0), 0);
        Checks.due("parabola's axis", Checks.plane(0, -1, 0, 0, 0, 1).touches(0, 0, 1, 0), 0);
        Checks.due("saddle", Checks.space(0, 0, 0, -1, 1, 0, 0, -1, 0, 0).touches(1, 1, 1, 0), 1);
        Checks.due("cone around one piece",
                Checks.space(-1, 0, 0, 0, 1, 0, 0, 1, 0, -1).touches(0, 1, 0, 1), 1);
    }

    static void promise14_noPointIsTouchedByNothing() {
        for (int u0 = -20; u0 <= 20; u0++) {
            Checks.due("d = 2", Checks.plane(4, 0, 0, 1, 0, 1).touches(u0, 10, 0, 0), 0);
            Checks.due("d = 3", Checks.space(4, 0, 0, 0, 1, 0, 0, 1, 0, 1).touches(u0, 0, 0, 10), 0);
        }
    }

    // The table times itself has 1600 at i, i and else 0, so it is its own inverse but for that.
    static void promise14_largest() {
        ConicKinds body = Checks.space(20, 20, 20, 20, 20, -20, -20, 20, -20, 20);
        Checks.due("20 + 20 - 2 * 20", body.touches(20, 0, 0, -20), 1);
        Checks.due("20 + 20 - 2 * 20", body.touches(0, 20, 20, 0), 1);
        Checks.due("4 * 20", body.touches(20, 20, 20, 20), 0);
        Checks.due("4 * 20", body.touches(-20, -20, -20, -20), 0);
        Checks.due("- 8 * 20", body.touches(20, -20, -20, -20), 0);
    }
}
