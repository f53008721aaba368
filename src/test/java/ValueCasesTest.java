/** Promises 10 and 11, below and unlike, case by case. */
public final class ValueCasesTest {
    public static void main(String[] args) throws IllegalAccessException {
        Cases.run(ValueCasesTest.class);
    }

    // ---- promise 10: below

    static void promise10_upAtMinus2000AndAt2000IsTaken() {
        for (int d = 2; d <= 3; d++) {
            ConicKinds conic = Refusals.regular(d);
            Checks.due("below(2000, 1)", conic.below(2000, 1), d);
            Checks.due("below(-2000, 1)", conic.below(-2000, 1), 0);
            Checks.due("below(2000, 100)", conic.below(2000, 100), d);
            Checks.due("below(-2000, 100)", conic.below(-2000, 100), 0);
        }
    }

    static void promise10_upBelowMinus2000IsRefused() {
        for (int up : new int[] {-2001, -65536, Refusals.LEAST}) {
            Refusals.refusedInBoth("below(" + up + ", 1)", -2, c -> c.below(up, 1));
            Refusals.refusedInBoth("below(" + up + ", 100)", -2, c -> c.below(up, 100));
        }
    }

    static void promise10_upAbove2000IsRefused() {
        for (int up : new int[] {2001, 65536, Refusals.MOST}) {
            Refusals.refusedInBoth("below(" + up + ", 1)", -2, c -> c.below(up, 1));
            Refusals.refusedInBoth("below(" + up + ", 100)", -2, c -> c.below(up, 100));
        }
    }

    static void promise10_downAt1AndAt100IsTaken() {
        ConicKinds conic = Checks.plane(0, 0, 0, 3, 0, -5);
        Checks.due("below(3, 1)", conic.below(3, 1), 1);
        Checks.due("below(300, 100)", conic.below(300, 100), 1);
        Checks.due("below(301, 100)", conic.below(301, 100), 2);
        Checks.due("below(297, 99)", conic.below(297, 99), 1);
    }

    static void promise10_downBelow1IsRefused() {
        for (int down : new int[] {0, -1, -100, Refusals.LEAST}) {
            Refusals.refusedInBoth("below(1, " + down + ")", -2, c -> c.below(1, down));
        }
    }

    static void promise10_downAbove100IsRefused() {
        for (int down : new int[] {101, 356, Refusals.MOST}) {
            Refusals.refusedInBoth("below(1, " + down + ")", -2, c -> c.below(1, down));
        }
    }

    static void promise10_bothWrongIsRefused() {
        Refusals.refusedInBoth("below(2001, 0)", -2, c -> c.below(2001, 0));
        Refusals.refusedInBoth("below(-2001, 101)", -2, c -> c.below(-2001, 101));
    }

    static void promise10_aValueAtUpByDownIsNotBelow() {
        ConicKinds conic = Checks.plane(0, 0, 0, 7, 0, -7);
        Checks.due("below(-7, 1)", conic.below(-7, 1), 0);
        Checks.due("below(-699, 100)", conic.below(-699, 100), 1);
        Checks.due("below(-701, 100)", conic.below(-701, 100), 0);
        Checks.due("below(7, 1)", conic.below(7, 1), 1);
        Checks.due("below(701, 100)", conic.below(701, 100), 2);
        Checks.due("below(699, 100)", conic.below(699, 100), 1);
    }

    static void promise10_at0() {
        Checks.due("all 0", new ConicKinds().below(0, 1), 0);
        Checks.due("all 0", new ConicKinds().below(1, 100), 2);
        Checks.due("all 0", new ConicKinds().below(-1, 100), 0);
        Checks.due("d = 3", Checks.space(0, 0, 0, 0, -1, 0, 0, 0, 0, 1).below(0, 100), 1);
    }

    static void promise10_equalValuesCountAsOftenAsTheyCome() {
        Checks.due("at 5", Checks.plane(0, 0, 0, 5, 0, 5).below(5, 1), 0);
        Checks.due("above 5", Checks.plane(0, 0, 0, 5, 0, 5).below(501, 100), 2);
        Checks.due("at 5", Checks.space(0, 0, 0, 0, 5, 0, 0, 5, 0, 5).below(5, 1), 0);
        Checks.due("above 5", Checks.space(0, 0, 0, 0, 5, 0, 0, 5, 0, 5).below(501, 100), 3);
    }

    static void promise10_greatestAndLeastValues() {
        ConicKinds conic = Checks.plane(0, 0, 0, 20, 20, 20);
        Checks.due("40 below 40", conic.below(40, 1), 1);
        Checks.due("40 below 2000 / 49", conic.below(2000, 49), 2);
        Checks.due("40 below 2000 / 50", conic.below(2000, 50), 1);
        ConicKinds body = Checks.space(0, 0, 0, 0, -20, 20, 20, -20, -20, -20);
        Checks.due("-60 below -60", body.below(-60, 1), 0);
        Checks.due("-60 below -1979 / 33", body.below(-1979, 33), 1);
        Checks.due("-60 below -1981 / 33", body.below(-1981, 33), 0);
    }

    static void promise10_column0OfTheFormDoesNotCount() {
        Checks.due("d = 2", Checks.plane(-20, 20, 20, 1, 0, 1).below(0, 1), 0);
        Checks.due("d = 3", Checks.space(-20, 20, 20, 20, 1, 0, 0, 1, 0, 1).below(0, 1), 0);
    }

    // The values of 1, 1 / 1, 0 are 1.618.. and -0.618..
    static void promise10_valuesThatAreNoFractions() {
        ConicKinds conic = Checks.plane(0, 0, 0, 1, 1, 0);
        Checks.due("below(161, 100)", conic.below(161, 100), 1);
        Checks.due("below(162, 100)", conic.below(162, 100), 2);
        Checks.due("below(-61, 100)", conic.below(-61, 100), 1);
        Checks.due("below(-62, 100)", conic.below(-62, 100), 0);
        Checks.due("below(89, 55)", conic.below(89, 55), 2);
        Checks.due("below(55, 34)", conic.below(55, 34), 1);
    }

    // ---- promise 11: unlike

    static void promise11_plane_one() {
        Checks.due("all 0", new ConicKinds().unlike(), 1);
        Checks.due("20, 20", Checks.plane(1, 2, 3, 20, 0, 20).unlike(), 1);
        Checks.due("-20, -20", Checks.plane(1, 2, 3, -20, 0, -20).unlike(), 1);
    }

    static void promise11_plane_two() {
        Checks.due("20, 19", Checks.plane(0, 0, 0, 20, 0, 19).unlike(), 2);
        Checks.due("1, -1", Checks.plane(0, 0, 0, 1, 0, -1).unlike(), 2);
        Checks.due("20, 1 / 1, 20", Checks.plane(0, 0, 0, 20, 1, 20).unlike(), 2);
        Checks.due("20, 20 / 20, 20", Checks.plane(0, 0, 0, 20, 20, 20).unlike(), 2);
    }

    static void promise11_space_one() {
        Checks.due("all 0", Checks.space(0, 0, 0, 0, 0, 0, 0, 0, 0, 0).unlike(), 1);
        Checks.due("column 0 alone", Checks.space(1, 2, 3, 4, 0, 0, 0, 0, 0, 0).unlike(), 1);
        Checks.due("20, 20, 20", Checks.space(0, 0, 0, 0, 20, 0, 0, 20, 0, 20).unlike(), 1);
    }

    static void promise11_space_two() {
        Checks.due("20, 20, 19", Checks.space(0, 0, 0, 0, 20, 0, 0, 20, 0, 19).unlike(), 2);
        Checks.due("19, 19, 20", Checks.space(0, 0, 0, 0, 20, 0, 0, 19, 0, 19).unlike(), 2);
        Checks.due("0, 0, 60", Checks.space(0, 0, 0, 0, 20, 20, 20, 20, 20, 20).unlike(), 2);
        Checks.due("0, 0, -1", Checks.space(0, 0, 0, 0, 0, 0, 0, 0, 0, -1).unlike(), 2);
        Checks.due("-1, -1, 2", Checks.space(0, 0, 0, 0, 0, 1, 1, 0, 1, 0).unlike(), 2);
    }

    static void promise11_space_three() {
        Checks.due("20, 19, 18", Checks.space(0, 0, 0, 0, 20, 0, 0, 19, 0, 18).unlike(), 3);
        Checks.due("1, 0, -1", Checks.space(0, 0, 0, 0, 1, 0, 0, 0, 0, -1).unlike(), 3);
        Checks.due("-1, -1, 2 but for one", Checks.space(0, 0, 0, 0, 0, 1, 1, 0, 1, 1).unlike(), 3);
        Checks.due("60, 0, 0 but for one", Checks.space(0, 0, 0, 0, 20, 20, 20, 20, 20, 19).unlike(), 3);
    }

    static void promise11_changesNothing() {
        Refusals.unchanged("unlike()", Refusals.regular(2), 2, c -> c.unlike());
        Refusals.unchanged("unlike()", Refusals.regular(3), 3, c -> c.unlike());
    }
}
