/** Promises 7 to 9, middles, middle and height, with the terms MIDDLES and fractions, case by case. */
public final class MiddleCasesTest {
    private static final long NOTHING = Checks.NOTHING;

    public static void main(String[] args) throws IllegalAccessException {
        Cases.run(MiddleCasesTest.class);
    }

    private static final int[][] NOT_JUST_ONE_PLANE = {
        {0, 0, 1, 1, 0, 0}, {0, 1, 0, 0, 0, 0}, {0, 1, 1, 1, 1, 1}, {1, 1, 1, 1, 1, 1},
        {5, 0, 0, 0, 0, 0}, {0, 0, 0, 0, 0, 0},
    };

    private static final int[][] NOT_JUST_ONE_SPACE = {
        {0, 0, 0, 1, 1, 0, 0, 1, 0, 0}, {0, 0, 0, 1, 1, 0, 0, 0, 0, 0}, {0, 0, 0, 1, 0, 0, 0, 0, 0, 0},
        {-1, 0, 0, 0, 1, 0, 0, 1, 0, 0}, {-1, 0, 0, 0, 1, 0, 0, 0, 0, 0}, {1, 0, 0, 0, 0, 0, 0, 0, 0, 0},
        {0, 0, 0, 0, 0, 0, 0, 0, 0, 0},
    };

    private static void dueMiddle(ConicKinds conic, int axis, long above, long below) {
        Checks.due("middle(" + axis + ", 0)", conic.middle(axis, 0), above);
        Checks.due("middle(" + axis + ", 1)", conic.middle(axis, 1), below);
    }

    private static void dueHeight(ConicKinds conic, long above, long below) {
        Checks.due("height(0)", conic.height(0), above);
        Checks.due("height(1)", conic.height(1), below);
    }

    // ---- promise 7: middles

    static void promise07_plane_onePoint() {
        Checks.due("ellipse", Checks.plane(-20, 3, 1, 2, 1, 3).middles(), 0);
        Checks.due("a point", Checks.plane(0, 0, 0, 1, 0, 1).middles(), 0);
        Checks.due("no point", Checks.plane(1, 0, 0, 1, 0, 1).middles(), 0);
        Checks.due("hyperbola", Checks.plane(1, 0, 0, 0, 1, 0).middles(), 0);
        Checks.due("crossing lines", Checks.plane(0, 0, 0, 1, 0, -1).middles(), 0);
    }

    static void promise07_plane_aLine() {
        Checks.due("parallel lines", Checks.plane(0, 1, 1, 1, 1, 1).middles(), 1);
        Checks.due("line told twice", Checks.plane(1, 1, 1, 1, 1, 1).middles(), 1);
        Checks.due("no point", Checks.plane(9, 1, 0, 1, 0, 0).middles(), 1);
    }

    static void promise07_plane_allPoints() {
        Checks.due("all 0", new ConicKinds().middles(), 2);
        Checks.due("1 alone", Checks.plane(1, 0, 0, 0, 0, 0).middles(), 2);
        Checks.due("-20 alone", Checks.plane(-20, 0, 0, 0, 0, 0).middles(), 2);
    }

    static void promise07_plane_none() {
        Refusals.unchanged("parabola", Checks.plane(0, 0, 1, 1, 0, 0), -3, c -> c.middles());
        Refusals.unchanged("a line", Checks.plane(0, 1, 0, 0, 0, 0), -3, c -> c.middles());
        Refusals.unchanged("a line", Checks.plane(20, 0, -1, 0, 0, 0), -3, c -> c.middles());
    }

    static void promise07_space_onePoint() {
        Checks.due("ellipsoid", Checks.space(-1, 5, 0, 0, 1, 0, 0, 1, 0, 1).middles(), 0);
        Checks.due("cone", Checks.space(0, 0, 0, 0, 1, 0, 0, 1, 0, -1).middles(), 0);
    }

    static void promise07_space_aLine() {
        Checks.due("elliptic cylinder", Checks.space(-1, 2, 0, 0, 1, 0, 0, 1, 0, 0).middles(), 1);
        Checks.due("crossing planes", Checks.space(0, 0, 0, 0, 0, 0, 1, 0, 0, 0).middles(), 1);
        Checks.due("no point", Checks.space(1, 0, 0, 0, 1, 0, 0, 1, 0, 0).middles(), 1);
    }

    static void promise07_space_aPlane() {
        Checks.due("parallel planes", Checks.space(-1, 2, 0, 0, 1, 0, 0, 0, 0, 0).middles(), 2);
        Checks.due("plane told twice", Checks.space(1, 1, 1, 1, 1, 1, 1, 1, 1, 1).middles(), 2);
        Checks.due("no point", Checks.space(1, 0, 0, 0, 0, 0, 0, 0, 0, 1).middles(), 2);
    }

    static void promise07_space_allPoints() {
        Checks.due("all 0", Checks.space(0, 0, 0, 0, 0, 0, 0, 0, 0, 0).middles(), 3);
        Checks.due("1 alone", Checks.space(1, 0, 0, 0, 0, 0, 0, 0, 0, 0).middles(), 3);
    }

    static void promise07_space_none() {
        Refusals.unchanged("elliptic paraboloid",
                Checks.space(0, 0, 0, 1, 1, 0, 0, 1, 0, 0), -3, c -> c.middles());
        Refusals.unchanged("saddle", Checks.space(0, 0, 0, 1, 0, 1, 0, 0, 0, 0), -3, c -> c.middles());
        Refusals.unchanged("parabolic cylinder",
                Checks.space(0, 0, 0, 1, 1, 0, 0, 0, 0, 0), -3, c -> c.middles());
        Refusals.unchanged("a plane", Checks.space(0, 0, 0, 1, 0, 0, 0, 0, 0, 0), -3, c -> c.middles());
    }

    static void promise07_m00DoesNotCount() {
        for (int v : new int[] {-20, -1, 0, 1, 20}) {
            Checks.due("one point", Checks.plane(v, 1, 1, 1, 0, 1).middles(), 0);
            Checks.due("a line", Checks.plane(v, 1, 1, 1, 1, 1).middles(), 1);
            Checks.due("none", Checks.plane(v, 1, 2, 1, 1, 1).middles(), -3);
            Checks.due("all points", Checks.plane(v, 0, 0, 0, 0, 0).middles(), 2);
        }
    }

    static void promise07_goesOverFromALineToNone() {
        Checks.due("16 20 15 9", Checks.plane(0, 20, 15, 16, 12, 9).middles(), 1);
        Checks.due("16 20 14 9", Checks.plane(0, 20, 14, 16, 12, 9).middles(), -3);
        Checks.due("16 19 15 9", Checks.plane(0, 19, 15, 16, 12, 9).middles(), -3);
        Checks.due("16 20 14 10", Checks.plane(0, 20, 14, 16, 12, 10).middles(), 0);
    }

    // ---- the term MIDDLES: THE FORM is the same at c + v as at c - v

    static void terms_middles_thePolarOfAMiddleHasOnlyNumber0() {
        ConicKinds conic = Checks.plane(3, -1, 2, 2, 1, 3);
        dueMiddle(conic, 1, 1, 1);
        dueMiddle(conic, 2, -1, 1);
        conic.put(0, 0, 4);
        Checks.due("polar of it, number 0", conic.polar(1, -1, 0, 1, 0), 1);
        Checks.due("polar of it, number 1", conic.polar(1, -1, 0, 1, 1), 0);
        Checks.due("polar of it, number 2", conic.polar(1, -1, 0, 1, 2), 0);
    }

    static void terms_middles_theFormIsTheSameOnBothSides() {
        ConicKinds conic = Checks.plane(2, -1, 2, 2, 1, 3);
        for (int x = -6; x <= 6; x++) {
            for (int y = -6; y <= 6; y++) {
                Checks.due("at c + v and at c - v", conic.at(5 + x, y - 5, 0, 5), conic.at(5 - x, -5 - y, 0, 5));
            }
        }
    }

    static void terms_middles_lieOnTheSetOrNot() {
        Checks.due("a point", Checks.plane(3, -1, 2, 2, 1, 3).at(1, -1, 0, 1), 1);
        Checks.due("no point", Checks.plane(4, -1, 2, 2, 1, 3).at(1, -1, 0, 1), 2);
        Checks.due("an ellipse", Checks.plane(2, -1, 2, 2, 1, 3).at(1, -1, 0, 1), 0);
    }

    // ---- promise 8: middle

    static void promise08_axisAt1AndAtDIsTaken() {
        ConicKinds conic = Checks.plane(0, 4, 3, -6, 0, 9);
        dueMiddle(conic, 1, 2, 3);
        dueMiddle(conic, 2, -1, 3);
        ConicKinds body = Checks.space(0, 1, -2, 3, 2, 0, 0, 4, 0, -9);
        dueMiddle(body, 1, -1, 2);
        dueMiddle(body, 2, 1, 2);
        dueMiddle(body, 3, 1, 3);
    }

    static void promise08_axisBelow1IsNothing() {
        for (int axis : new int[] {0, -1, -2, Refusals.LEAST}) {
            Refusals.refusedInBoth("middle(" + axis + ", 0)", NOTHING, c -> c.middle(axis, 0));
            Refusals.refusedInBoth("middle(" + axis + ", 1)", NOTHING, c -> c.middle(axis, 1));
        }
    }

    static void promise08_axisAboveDIsNothing() {
        Refusals.refused("middle(3, 0)", 2, NOTHING, c -> c.middle(3, 0));
        Refusals.refused("middle(3, 1)", 2, NOTHING, c -> c.middle(3, 1));
        for (int axis : new int[] {4, 5, Refusals.MOST}) {
            Refusals.refusedInBoth("middle(" + axis + ", 0)", NOTHING, c -> c.middle(axis, 0));
            Refusals.refusedInBoth("middle(" + axis + ", 1)", NOTHING, c -> c.middle(axis, 1));
        }
    }

    static void promise08_partBelow0IsNothing() {
        for (int part : new int[] {-1, -2, Refusals.LEAST}) {
            Refusals.refusedInBoth("middle(1, " + part + ")", NOTHING, c -> c.middle(1, part));
        }
    }

    static void promise08_partAbove1IsNothing() {
        for (int part : new int[] {2, 3, Refusals.MOST}) {
            Refusals.refusedInBoth("middle(1, " + part + ")", NOTHING, c -> c.middle(1, part));
        }
    }

    static void promise08_notJustOneMiddleIsNothing() {
        for (int[] m : NOT_JUST_ONE_PLANE) {
            for (int part = 0; part <= 1; part++) {
                int number = part;
                Refusals.unchanged("middle(1, part)", Checks.plane(m), NOTHING, c -> c.middle(1, number));
                Refusals.unchanged("middle(2, part)", Checks.plane(m), NOTHING, c -> c.middle(2, number));
            }
        }
        for (int[] m : NOT_JUST_ONE_SPACE) {
            for (int part = 0; part <= 1; part++) {
                int number = part;
                Refusals.unchanged("middle(1, part)", Checks.space(m), NOTHING, c -> c.middle(1, number));
                Refusals.unchanged("middle(3, part)", Checks.space(m), NOTHING, c -> c.middle(3, number));
            }
        }
    }

    static void promise08_severalWrongAtOnceIsNothing() {
        Refusals.refusedInBoth("middle(0, 2)", NOTHING, c -> c.middle(0, 2));
        Refusals.refusedInBoth("middle(4, -1)", NOTHING, c -> c.middle(4, -1));
        Refusals.unchanged("middle(3, 2)", new ConicKinds(), NOTHING, c -> c.middle(3, 2));
    }

    static void promise08_m00DoesNotCount() {
        for (int v : new int[] {-20, 0, 20}) {
            dueMiddle(Checks.plane(v, 4, 3, -6, 0, 9), 1, 2, 3);
        }
    }

    // ---- the term fractions, at middle

    static void promise08_fraction_0Is0By1() {
        dueMiddle(Checks.plane(-4, 0, 0, 7, 0, 7), 1, 0, 1);
        dueMiddle(Checks.plane(-4, 0, 0, -7, 0, 7), 2, 0, 1);
        dueMiddle(Checks.space(0, 1, 0, 0, 5, 0, 0, 5, 0, 5), 3, 0, 1);
    }

    static void promise08_fraction_wholeIsBy1() {
        dueMiddle(Checks.plane(0, 20, -20, 1, 0, 1), 1, -20, 1);
        dueMiddle(Checks.plane(0, 20, -20, 1, 0, 1), 2, 20, 1);
        dueMiddle(Checks.plane(0, 20, 0, 20, 0, 20), 1, -1, 1);
    }

    static void promise08_fraction_lowestTerms() {
        dueMiddle(Checks.plane(0, -6, 0, 8, 0, 20), 1, 3, 4);
        dueMiddle(Checks.plane(0, -1, 0, 20, 0, 20), 1, 1, 20);
    }

    static void promise08_fraction_belowIsAbove0WhateverTheSigns() {
        dueMiddle(Checks.plane(0, -1, 0, 2, 0, 1), 1, 1, 2);
        dueMiddle(Checks.plane(0, 1, 0, 2, 0, 1), 1, -1, 2);
        dueMiddle(Checks.plane(0, -1, 0, -2, 0, 1), 1, -1, 2);
        dueMiddle(Checks.plane(0, 1, 0, -2, 0, 1), 1, 1, 2);
        dueMiddle(Checks.plane(0, 1, 0, -2, 0, -1), 1, 1, 2);
        dueMiddle(Checks.space(0, 1, 0, 0, -2, 0, 0, -1, 0, -1), 1, 1, 2);
        dueMiddle(Checks.space(0, 1, 0, 0, -2, 0, 0, -1, 0, 1), 1, 1, 2);
    }

    static void promise08_fraction_largest() {
        // The determinant of A is -1: 18 * 20 + 19 * 20 and -19 * 20 - 20 * 20 are not divided.
        ConicKinds conic = Checks.plane(0, 20, -20, 20, 19, 18);
        dueMiddle(conic, 1, 740, 1);
        dueMiddle(conic, 2, -780, 1);
        ConicKinds body = Checks.space(20, 20, 20, 20, 20, -20, -20, 20, -20, 20);
        dueMiddle(body, 1, 1, 1);
        dueMiddle(body, 3, 1, 1);
    }

    // ---- promise 9: height

    static void promise09_partAt0AndAt1IsTaken() {
        dueHeight(Checks.plane(-4, 0, 0, 1, 0, 1), -4, 1);
        dueHeight(Checks.plane(0, 4, 0, -6, 0, 9), 8, 3);
        dueHeight(Checks.space(0, 1, 0, 0, -3, 0, 0, -3, 0, -3), 1, 3);
    }

    static void promise09_partBelow0IsNothing() {
        for (int part : new int[] {-1, -2, Refusals.LEAST}) {
            Refusals.refusedInBoth("height(" + part + ")", NOTHING, c -> c.height(part));
        }
    }

    static void promise09_partAbove1IsNothing() {
        for (int part : new int[] {2, 3, Refusals.MOST}) {
            Refusals.refusedInBoth("height(" + part + ")", NOTHING, c -> c.height(part));
        }
    }

    static void promise09_determinantOfAIs0Throws() {
        for (int[] m : NOT_JUST_ONE_PLANE) {
            ConicKinds conic = Checks.plane(m);
            Checks.dueArithmetic("height(0)", () -> conic.height(0));
            Checks.dueArithmetic("height(1)", () -> conic.height(1));
        }
        for (int[] m : NOT_JUST_ONE_SPACE) {
            ConicKinds conic = Checks.space(m);
            Checks.dueArithmetic("height(0)", () -> conic.height(0));
            Checks.dueArithmetic("height(1)", () -> conic.height(1));
        }
    }

    static void promise09_throwingChangesNothing() {
        for (int[] m : NOT_JUST_ONE_PLANE) {
            ConicKinds conic = Checks.plane(m);
            conic.keep();
            String before = Refusals.state(conic);
            Checks.dueArithmetic("height(0)", () -> conic.height(0));
            Checks.holds("all is as before", before.equals(Refusals.state(conic)));
        }
    }

    static void promise09_partIsNamedBeforeTheDeterminant() {
        for (int part : new int[] {-1, 2, Refusals.LEAST, Refusals.MOST}) {
            Refusals.unchanged("height(" + part + ") of a parabola",
                    Checks.plane(0, 0, 1, 1, 0, 0), NOTHING, c -> c.height(part));
            Refusals.unchanged("height(" + part + ") of all 0", new ConicKinds(), NOTHING, c -> c.height(part));
        }
    }

    static void promise09_afterThrowingItGoesOn() {
        ConicKinds conic = Checks.plane(5, 0, 0, 1, 0, 0);
        Checks.dueArithmetic("height(0)", () -> conic.height(0));
        conic.put(2, 2, 1);
        dueHeight(conic, 5, 1);
        conic.put(2, 2, 0);
        Checks.dueArithmetic("height(1)", () -> conic.height(1));
    }

    static void promise09_determinantOfAllIs0IsNotRefused() {
        dueHeight(Checks.plane(0, 0, 0, 7, 0, -7), 0, 1);
        dueHeight(Checks.plane(3, -1, 2, 2, 1, 3), 0, 1);
        dueHeight(Checks.space(0, 0, 0, 0, 7, 0, 0, 7, 0, -7), 0, 1);
    }

    static void promise09_determinantOfAAtMinus1And1IsTaken() {
        dueHeight(Checks.plane(1, 0, 0, 20, 19, 18), 1, 1);
        dueHeight(Checks.plane(1, 0, 0, 17, 13, 10), 1, 1);
        Checks.dueArithmetic("16 * 9 - 12 * 12",
                () -> Checks.plane(1, 0, 0, 16, 12, 9).height(0));
    }

    static void promise09_fraction_belowIsAbove0WhateverTheSigns() {
        dueHeight(Checks.plane(0, 1, 0, 3, 0, 1), -1, 3);
        dueHeight(Checks.plane(0, 1, 0, -3, 0, 1), 1, 3);
        dueHeight(Checks.plane(0, 1, 0, 3, 0, -1), -1, 3);
        dueHeight(Checks.plane(0, 1, 0, -3, 0, -1), 1, 3);
        dueHeight(Checks.space(0, 1, 0, 0, 3, 0, 0, 1, 0, -1), -1, 3);
    }

    static void promise09_fraction_lowestTerms() {
        dueHeight(Checks.plane(0, 6, 0, 8, 0, 20), -9, 2);
        dueHeight(Checks.plane(20, 0, 0, 20, 0, 20), 20, 1);
    }

    static void promise09_isTheFormAtTheMiddle() {
        ConicKinds conic = Checks.plane(2, -1, 2, 2, 1, 3);
        dueHeight(conic, -1, 1);
        Checks.due("at the middle", conic.at(1, -1, 0, 1), 0);
    }

    static void promise09_largest() {
        dueHeight(Checks.space(20, 20, 20, 20, 20, -20, -20, 20, -20, 20), 80, 1);
        // The middle is 740, -780, and the form there is m(0, 0) + m(1, 0) * 740 - m(2, 0) * 780.
        dueHeight(Checks.plane(-20, 20, -20, 20, 19, 18), -20 + 20 * 740 + 20 * 780, 1);
    }
}
