/** Promises 1 to 3, a new object, dimension and put, case by case. */
public final class FormCasesTest {
    private static final long NOTHING = Checks.NOTHING;

    public static void main(String[] args) throws IllegalAccessException {
        Cases.run(FormCasesTest.class);
    }

    private static void dueAll0(ConicKinds conic, int d) {
        for (int i = 0; i <= d; i++) {
            for (int j = 0; j <= d; j++) {
                Checks.due("put(" + i + ", " + j + ", 0)", conic.put(i, j, 0), 0);
            }
        }
        Checks.due("kind()", conic.kind(), d == 2 ? 8 : 26);
    }

    private static ConicKinds keptPlane() {
        ConicKinds conic = Checks.plane(1, 2, 3, 4, 5, 6);
        conic.keep();
        return conic;
    }

    private static ConicKinds keptSpace() {
        ConicKinds conic = Checks.space(1, 2, 3, 4, 5, 6, 7, 8, 9, 10);
        conic.keep();
        return conic;
    }

    // ---- promise 1: a new object

    static void promise01_dimensionIs2() {
        ConicKinds conic = new ConicKinds();
        Checks.due("put(2, 2, 0)", conic.put(2, 2, 0), 0);
        Checks.due("put(3, 3, 0)", conic.put(3, 3, 0), NOTHING);
        Checks.due("section(1, 0, 0, 0)", conic.section(1, 0, 0, 0), -3);
        Checks.due("dimension(2)", conic.dimension(2), 2);
    }

    static void promise01_formIsAll0() {
        dueAll0(new ConicKinds(), 2);
    }

    static void promise01_nothingIsKept() {
        Checks.due("alike()", new ConicKinds().alike(), -3);
    }

    static void promise01_everyCallAnswersOnFormAll0() {
        ConicKinds conic = new ConicKinds();
        for (int what = 0; what <= 3; what++) {
            Checks.due("signs(" + what + ")", conic.signs(what), 0);
            Checks.due("determinant(" + what + ")", conic.determinant(what), 0);
        }
        Checks.due("middles()", conic.middles(), 2);
        Checks.due("middle(1, 0)", conic.middle(1, 0), NOTHING);
        Checks.dueArithmetic("height(0)", () -> conic.height(0));
        Checks.due("below(0, 1)", conic.below(0, 1), 0);
        Checks.due("below(1, 100)", conic.below(1, 100), 2);
        Checks.due("unlike()", conic.unlike(), 1);
        Checks.due("at(1, 2, 3, 4)", conic.at(1, 2, 3, 4), 1);
        Checks.due("polar(1, 2, 3, 4, 0)", conic.polar(1, 2, 3, 4, 0), NOTHING);
        Checks.due("touches(1, 1, 1, 1)", conic.touches(1, 1, 1, 1), -3);
        Checks.due("meets(1, 1, 1, 1, 1, 1)", conic.meets(1, 1, 1, 1, 1, 1), 3);
        Checks.due("line(0, 0)", conic.line(0, 0), NOTHING);
        Checks.due("keep()", conic.keep(), 8);
    }

    static void promise01_objectsHaveNothingInCommon() {
        ConicKinds changed = keptSpace();
        ConicKinds conic = new ConicKinds();
        dueAll0(conic, 2);
        Checks.due("alike()", conic.alike(), -3);
        conic.put(1, 1, 5);
        Checks.due("the other's m(1, 1)", changed.put(1, 1, 5), 5);
        Checks.due("the other's m(2, 2)", changed.put(2, 2, 8), 8);
        Checks.due("the other's alike()", changed.alike(), 1);
        Checks.due("the other's dimension", changed.dimension(3), 3);
    }

    // ---- promise 2: dimension

    static void promise02_answersWhichItWas() {
        ConicKinds conic = new ConicKinds();
        Checks.due("2 to 3", conic.dimension(3), 2);
        Checks.due("3 to 3", conic.dimension(3), 3);
        Checks.due("3 to 2", conic.dimension(2), 3);
        Checks.due("2 to 2", conic.dimension(2), 2);
    }

    static void promise02_dIsFromNowOnTheDimension() {
        ConicKinds conic = new ConicKinds();
        conic.dimension(3);
        Checks.due("put(3, 3, 1) with 3", conic.put(3, 3, 1), 0);
        Checks.due("kind() with 3", conic.kind(), 25);
        conic.dimension(2);
        Checks.due("put(3, 3, 1) with 2", conic.put(3, 3, 1), NOTHING);
        Checks.due("kind() with 2", conic.kind(), 8);
    }

    static void promise02_1IsRefused() {
        Refusals.refusedInBoth("dimension(1)", -2, c -> c.dimension(1));
    }

    static void promise02_4IsRefused() {
        Refusals.refusedInBoth("dimension(4)", -2, c -> c.dimension(4));
    }

    static void promise02_0AndBelowAreRefused() {
        for (int d : new int[] {0, -1, -2, -3, Refusals.LEAST}) {
            Refusals.refusedInBoth("dimension(" + d + ")", -2, c -> c.dimension(d));
        }
    }

    static void promise02_farAboveIsRefused() {
        for (int d : new int[] {5, 258, 65539, Refusals.MOST}) {
            Refusals.refusedInBoth("dimension(" + d + ")", -2, c -> c.dimension(d));
        }
    }

    static void promise02_2To2LeavesFormAll0() {
        ConicKinds conic = keptPlane();
        conic.dimension(2);
        dueAll0(conic, 2);
    }

    static void promise02_3To3LeavesFormAll0() {
        ConicKinds conic = keptSpace();
        conic.dimension(3);
        dueAll0(conic, 3);
    }

    static void promise02_2To3LeavesFormAll0() {
        ConicKinds conic = keptPlane();
        conic.dimension(3);
        dueAll0(conic, 3);
    }

    static void promise02_3To2LeavesFormAll0() {
        ConicKinds conic = keptSpace();
        conic.dimension(2);
        dueAll0(conic, 2);
    }

    static void promise02_3To2To3BringsNothingBack() {
        ConicKinds conic = keptSpace();
        conic.dimension(2);
        conic.dimension(3);
        dueAll0(conic, 3);
        Checks.due("alike()", conic.alike(), -3);
    }

    static void promise02_nothingIsKeptAfterEachChange() {
        for (int d = 2; d <= 3; d++) {
            ConicKinds plane = keptPlane();
            plane.dimension(d);
            Checks.due("2 to " + d, plane.alike(), -3);
            ConicKinds space = keptSpace();
            space.dimension(d);
            Checks.due("3 to " + d, space.alike(), -3);
        }
    }

    static void promise02_afterItTheSameFormIsKeptAnew() {
        ConicKinds conic = keptSpace();
        conic.dimension(2);
        Checks.due("keep()", conic.keep(), 8);
        Checks.due("alike()", conic.alike(), 1);
        conic.dimension(3);
        conic.keep();
        Checks.due("alike() with 3", conic.alike(), 1);
        conic.put(3, 3, 1);
        Checks.due("alike() with m(3, 3)", conic.alike(), 0);
    }

    // ---- promise 3: put

    static void promise03_iAt0AndAtDIsTaken() {
        for (int d = 2; d <= 3; d++) {
            ConicKinds conic = new ConicKinds();
            conic.dimension(d);
            Checks.due("put(0, 1, 7)", conic.put(0, 1, 7), 0);
            Checks.due("put(0, 1, 8)", conic.put(0, 1, 8), 7);
            Checks.due("put(d, 1, 9)", conic.put(d, 1, 9), 0);
            Checks.due("put(d, 1, 8)", conic.put(d, 1, 8), 9);
        }
    }

    static void promise03_jAt0AndAtDIsTaken() {
        for (int d = 2; d <= 3; d++) {
            ConicKinds conic = new ConicKinds();
            conic.dimension(d);
            Checks.due("put(1, 0, 7)", conic.put(1, 0, 7), 0);
            Checks.due("put(1, 0, 8)", conic.put(1, 0, 8), 7);
            Checks.due("put(1, d, 9)", conic.put(1, d, 9), 0);
            Checks.due("put(1, d, 8)", conic.put(1, d, 8), 9);
        }
    }

    static void promise03_iBelow0IsNothing() {
        for (int i : new int[] {-1, -2, Refusals.LEAST}) {
            Refusals.refusedInBoth("put(" + i + ", 1, 5)", NOTHING, c -> c.put(i, 1, 5));
        }
    }

    static void promise03_iAboveDIsNothing() {
        Refusals.refused("put(3, 1, 5)", 2, NOTHING, c -> c.put(3, 1, 5));
        for (int i : new int[] {4, 5, 16, Refusals.MOST}) {
            Refusals.refusedInBoth("put(" + i + ", 1, 5)", NOTHING, c -> c.put(i, 1, 5));
        }
    }

    static void promise03_jBelow0IsNothing() {
        for (int j : new int[] {-1, -2, Refusals.LEAST}) {
            Refusals.refusedInBoth("put(1, " + j + ", 5)", NOTHING, c -> c.put(1, j, 5));
        }
    }

    static void promise03_jAboveDIsNothing() {
        Refusals.refused("put(1, 3, 5)", 2, NOTHING, c -> c.put(1, 3, 5));
        for (int j : new int[] {4, 5, 16, Refusals.MOST}) {
            Refusals.refusedInBoth("put(1, " + j + ", 5)", NOTHING, c -> c.put(1, j, 5));
        }
    }

    static void promise03_vAtMinus20AndAt20IsTaken() {
        for (int d = 2; d <= 3; d++) {
            ConicKinds conic = new ConicKinds();
            conic.dimension(d);
            for (int i = 0; i <= d; i++) {
                Checks.due("put(i, d, 20)", conic.put(i, d, 20), 0);
                Checks.due("put(i, d, -20)", conic.put(i, d, -20), 20);
                Checks.due("put(i, d, 0)", conic.put(i, d, 0), -20);
            }
        }
    }

    static void promise03_vBelowMinus20IsNothing() {
        for (int v : new int[] {-21, -276, Refusals.LEAST}) {
            Refusals.refusedInBoth("put(1, 1, " + v + ")", NOTHING, c -> c.put(1, 1, v));
        }
    }

    static void promise03_vAbove20IsNothing() {
        for (int v : new int[] {21, 276, Refusals.MOST}) {
            Refusals.refusedInBoth("put(1, 1, " + v + ")", NOTHING, c -> c.put(1, 1, v));
        }
    }

    static void promise03_severalWrongAtOnceIsNothing() {
        Refusals.refusedInBoth("put(-1, 4, 5)", NOTHING, c -> c.put(-1, 4, 5));
        Refusals.refusedInBoth("put(-1, 1, 21)", NOTHING, c -> c.put(-1, 1, 21));
        Refusals.refusedInBoth("put(1, 4, -21)", NOTHING, c -> c.put(1, 4, -21));
        Refusals.refusedInBoth("put(4, -1, 21)", NOTHING, c -> c.put(4, -1, 21));
    }

    // In rows of three or four, i = 1 and j = -1 or -2 would be a place of row 0.
    static void promise03_wrongPlacesDoNotFallOnOthers() {
        Refusals.refusedInBoth("put(1, -3, 5)", NOTHING, c -> c.put(1, -3, 5));
        Refusals.refusedInBoth("put(1, -4, 5)", NOTHING, c -> c.put(1, -4, 5));
        Refusals.refusedInBoth("put(0, 4, 5)", NOTHING, c -> c.put(0, 4, 5));
        Refusals.refusedInBoth("put(-1, 5, 5)", NOTHING, c -> c.put(-1, 5, 5));
        Refusals.refused("put(0, 3, 5)", 2, NOTHING, c -> c.put(0, 3, 5));
    }

    static void promise03_mOfJIBecomesVToo() {
        for (int d = 2; d <= 3; d++) {
            ConicKinds conic = new ConicKinds();
            conic.dimension(d);
            int v = 0;
            for (int i = 0; i <= d; i++) {
                for (int j = 0; j < i; j++) {
                    v++;
                    Checks.due("put(i, j, v)", conic.put(i, j, v), 0);
                    Checks.due("put(j, i, -v)", conic.put(j, i, -v), v);
                    Checks.due("put(i, j, -v)", conic.put(i, j, -v), -v);
                }
            }
        }
    }

    static void promise03_noOtherPlaceChanges() {
        for (int d = 2; d <= 3; d++) {
            for (int i = 0; i <= d; i++) {
                for (int j = 0; j <= d; j++) {
                    ConicKinds conic = new ConicKinds();
                    conic.dimension(d);
                    conic.put(i, j, 20);
                    int[][] m = Checks.read(conic, d);
                    int sum = 0;
                    for (int[] row : m) {
                        for (int v : row) {
                            sum += v;
                        }
                    }
                    Checks.due("m(" + i + ", " + j + ")", m[i][j], 20);
                    Checks.due("sum with " + i + ", " + j, sum, i == j ? 20 : 40);
                }
            }
        }
    }

    static void promise03_answersMinus1WhereItWas() {
        ConicKinds conic = new ConicKinds();
        conic.put(1, 2, -1);
        Checks.due("put(2, 1, -1)", conic.put(2, 1, -1), -1);
    }
}
