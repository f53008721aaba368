import java.util.Arrays;

/** Promises 4 to 6, kind, signs and determinant, and the table of KINDS, case by case. */
public final class KindCasesTest {
    private static final long NOTHING = Checks.NOTHING;

    public static void main(String[] args) throws IllegalAccessException {
        Cases.run(KindCasesTest.class);
    }

    // Forms are told as 00, 01, 02, 11, 12, 22, or 00, 01, 02, 03, 11, 12, 13, 22, 23, 33.

    private static int[] times(int factor, int[] m) {
        int[] changed = new int[m.length];
        for (int i = 0; i < m.length; i++) {
            changed[i] = factor * m[i];
        }
        return changed;
    }

    /** The form by other axes and another 0: x + y + 1, y - 1 (and z + x) for x, y (and z). */
    private static int[] moved(int[] m) {
        int[][] by = {{1, 0, 0, 0}, {1, 1, 1, 0}, {-1, 0, 1, 0}, {0, 1, 0, 1}};
        long[][] table = Reference.table(m);
        int d = table.length - 1;
        int[] changed = new int[m.length];
        int k = 0;
        for (int i = 0; i <= d; i++) {
            for (int j = i; j <= d; j++) {
                for (int p = 0; p <= d; p++) {
                    for (int q = 0; q <= d; q++) {
                        changed[k] += by[p][i] * (int) table[p][q] * by[q][j];
                    }
                }
                k++;
            }
        }
        return changed;
    }

    private static void dueSigns(String what, ConicKinds conic, int... signs) {
        for (int i = 0; i < 4; i++) {
            Checks.due(what + " signs(" + i + ")", conic.signs(i), signs[i]);
        }
    }

    /** Of the row's form, and of those that are the same but for a factor, or other axes. */
    private static void row(int a, int b, int allA, int allB, int kind, int... m) {
        for (int[] same : new int[][] {m, moved(m), moved(moved(m)), times(5, m), times(20, m)}) {
            if (Arrays.stream(same).allMatch(v -> v >= -20 && v <= 20)) {
                String what = Arrays.toString(same);
                ConicKinds conic = Checks.make(same);
                dueSigns(what, conic, a, b, allA, allB);
                Checks.due(what + " kind()", conic.kind(), kind);
                ConicKinds turned = Checks.make(times(-1, same));
                dueSigns("turned " + what, turned, b, a, allB, allA);
                Checks.due("turned " + what + " kind()", turned.kind(), kind);
            }
        }
    }

    /** The KINDS that come where the number at this place is -1, 0, 1. */
    private static void steps(int[] m, int place, int atMinus1, int at0, int at1) {
        int[] want = {atMinus1, at0, at1};
        for (int v = -1; v <= 1; v++) {
            int[] changed = m.clone();
            changed[place] = v;
            String what = Arrays.toString(changed);
            Checks.due(what, Checks.make(changed).kind(), want[v + 1]);
            Checks.due("moved " + what, Checks.make(moved(changed)).kind(), want[v + 1]);
            Checks.due("turned " + what, Checks.make(times(-1, changed)).kind(), want[v + 1]);
        }
    }

    // ---- promise 4: every row of the table, d = 2

    static void promise04_plane_2_0_by_3_0_isNoPoint() {
        row(2, 0, 3, 0, 0, 1, 0, 0, 1, 0, 1);
    }

    static void promise04_plane_2_0_by_2_0_isAPoint() {
        row(2, 0, 2, 0, 1, 0, 0, 0, 1, 0, 1);
    }

    static void promise04_plane_2_0_by_2_1_isAnEllipse() {
        row(2, 0, 2, 1, 2, -1, 0, 0, 1, 0, 1);
        row(2, 0, 2, 1, 2, -1, 0, 0, 2, 0, 1);
    }

    static void promise04_plane_1_1_by_2_1_isAHyperbola() {
        row(1, 1, 2, 1, 3, 1, 0, 0, 1, 0, -1);
        row(1, 1, 2, 1, 3, 1, 0, 0, 0, 1, 0);
    }

    static void promise04_plane_1_1_by_1_1_isTwoLinesThatCross() {
        row(1, 1, 1, 1, 5, 0, 0, 0, 1, 0, -1);
        row(1, 1, 1, 1, 5, 0, 0, 0, 0, 1, 0);
    }

    static void promise04_plane_1_0_by_2_1_isAParabola() {
        row(1, 0, 2, 1, 4, 0, 0, 1, 1, 0, 0);
        row(1, 0, 2, 1, 4, 0, 1, 0, 0, 0, 1);
    }

    static void promise04_plane_1_0_by_1_1_isTwoParallelLines() {
        row(1, 0, 1, 1, 6, -1, 0, 0, 1, 0, 0);
        row(1, 0, 1, 1, 6, 0, 0, 1, 0, 0, 1);
    }

    static void promise04_plane_1_0_by_2_0_isNoPoint() {
        row(1, 0, 2, 0, 0, 1, 0, 0, 1, 0, 0);
    }

    static void promise04_plane_1_0_by_1_0_isALineToldTwice() {
        row(1, 0, 1, 0, 9, 0, 0, 0, 1, 0, 0);
        row(1, 0, 1, 0, 9, 1, 1, 1, 1, 1, 1);
    }

    static void promise04_plane_0_0_by_1_1_isALine() {
        row(0, 0, 1, 1, 7, 0, 1, 0, 0, 0, 0);
        row(0, 0, 1, 1, 7, 1, 0, 1, 0, 0, 0);
    }

    static void promise04_plane_0_0_by_1_0_isNoPoint() {
        row(0, 0, 1, 0, 0, 1, 0, 0, 0, 0, 0);
    }

    static void promise04_plane_0_0_by_0_0_isAllPoints() {
        row(0, 0, 0, 0, 8, 0, 0, 0, 0, 0, 0);
    }

    // ---- promise 4: every row of the table, d = 3

    static void promise04_space_3_0_by_4_0_isNoPoint() {
        row(3, 0, 4, 0, 10, 1, 0, 0, 0, 1, 0, 0, 1, 0, 1);
    }

    static void promise04_space_3_0_by_3_0_isAPoint() {
        row(3, 0, 3, 0, 11, 0, 0, 0, 0, 1, 0, 0, 1, 0, 1);
    }

    static void promise04_space_3_0_by_3_1_isAnEllipsoid() {
        row(3, 0, 3, 1, 12, -1, 0, 0, 0, 1, 0, 0, 1, 0, 1);
    }

    static void promise04_space_2_1_by_2_2_isAHyperboloidOfOnePiece() {
        row(2, 1, 2, 2, 13, -1, 0, 0, 0, 1, 0, 0, 1, 0, -1);
    }

    static void promise04_space_2_1_by_3_1_isAHyperboloidOfTwoPieces() {
        row(2, 1, 3, 1, 14, 1, 0, 0, 0, 1, 0, 0, 1, 0, -1);
    }

    static void promise04_space_2_1_by_2_1_isACone() {
        row(2, 1, 2, 1, 17, 0, 0, 0, 0, 1, 0, 0, 1, 0, -1);
    }

    static void promise04_space_2_0_by_3_1_isAnEllipticParaboloid() {
        row(2, 0, 3, 1, 15, 0, 0, 0, 1, 1, 0, 0, 1, 0, 0);
    }

    static void promise04_space_2_0_by_2_1_isAnEllipticCylinder() {
        row(2, 0, 2, 1, 18, -1, 0, 0, 0, 1, 0, 0, 1, 0, 0);
    }

    static void promise04_space_2_0_by_3_0_isNoPoint() {
        row(2, 0, 3, 0, 10, 1, 0, 0, 0, 1, 0, 0, 1, 0, 0);
    }

    static void promise04_space_2_0_by_2_0_isALine() {
        row(2, 0, 2, 0, 21, 0, 0, 0, 0, 1, 0, 0, 1, 0, 0);
    }

    static void promise04_space_1_1_by_2_2_isASaddle() {
        row(1, 1, 2, 2, 16, 0, 0, 0, 1, 1, 0, 0, -1, 0, 0);
        row(1, 1, 2, 2, 16, 0, 0, 0, 1, 0, 1, 0, 0, 0, 0);
    }

    static void promise04_space_1_1_by_2_1_isAHyperbolicCylinder() {
        row(1, 1, 2, 1, 19, 1, 0, 0, 0, 1, 0, 0, -1, 0, 0);
        row(1, 1, 2, 1, 19, 1, 0, 0, 0, 0, 1, 0, 0, 0, 0);
    }

    static void promise04_space_1_1_by_1_1_isTwoPlanesThatCross() {
        row(1, 1, 1, 1, 22, 0, 0, 0, 0, 1, 0, 0, -1, 0, 0);
        row(1, 1, 1, 1, 22, 0, 0, 0, 0, 0, 0, 1, 0, 0, 0);
    }

    static void promise04_space_1_0_by_2_1_isAParabolicCylinder() {
        row(1, 0, 2, 1, 20, 0, 0, 0, 1, 1, 0, 0, 0, 0, 0);
    }

    static void promise04_space_1_0_by_1_1_isTwoParallelPlanes() {
        row(1, 0, 1, 1, 23, -1, 0, 0, 0, 1, 0, 0, 0, 0, 0);
    }

    static void promise04_space_1_0_by_2_0_isNoPoint() {
        row(1, 0, 2, 0, 10, 1, 0, 0, 0, 1, 0, 0, 0, 0, 0);
    }

    static void promise04_space_1_0_by_1_0_isAPlaneToldTwice() {
        row(1, 0, 1, 0, 25, 0, 0, 0, 0, 0, 0, 0, 0, 0, 1);
        row(1, 0, 1, 0, 25, 1, 1, 1, 1, 1, 1, 1, 1, 1, 1);
    }

    static void promise04_space_0_0_by_1_1_isAPlane() {
        row(0, 0, 1, 1, 24, 0, 0, 0, 1, 0, 0, 0, 0, 0, 0);
        row(0, 0, 1, 1, 24, 1, 1, 0, 0, 0, 0, 0, 0, 0, 0);
    }

    static void promise04_space_0_0_by_1_0_isNoPoint() {
        row(0, 0, 1, 0, 10, 1, 0, 0, 0, 0, 0, 0, 0, 0, 0);
    }

    static void promise04_space_0_0_by_0_0_isAllPoints() {
        row(0, 0, 0, 0, 26, 0, 0, 0, 0, 0, 0, 0, 0, 0, 0);
    }

    // ---- promise 4: both turned only where that puts more above

    static void promise04_turned_moreAboveInA() {
        dueSigns("below", Checks.plane(1, 0, 0, -1, 0, -1), 0, 2, 1, 2);
        Checks.due("1, -1, -1", Checks.plane(1, 0, 0, -1, 0, -1).kind(), 2);
        dueSigns("below", Checks.space(1, 0, 0, 0, 1, 0, 0, -1, 0, -1), 1, 2, 2, 2);
        Checks.due("1, 1, -1, -1", Checks.space(1, 0, 0, 0, 1, 0, 0, -1, 0, -1).kind(), 13);
    }

    static void promise04_turned_asManyInAAndMoreAboveInAll() {
        dueSigns("as many", Checks.plane(-1, 0, 0, 1, 0, -1), 1, 1, 1, 2);
        Checks.due("-1, 1, -1", Checks.plane(-1, 0, 0, 1, 0, -1).kind(), 3);
        dueSigns("none", Checks.plane(-1, 0, 0, 0, 0, 0), 0, 0, 0, 1);
        Checks.due("-1 alone", Checks.plane(-1, 0, 0, 0, 0, 0).kind(), 0);
        Checks.due("-1 alone, d = 3", Checks.space(-1, 0, 0, 0, 0, 0, 0, 0, 0, 0).kind(), 10);
        Checks.due("-1, 1, -1, d = 3", Checks.space(-1, 0, 0, 0, 1, 0, 0, -1, 0, 0).kind(), 19);
    }

    // More above in A counts for more than more below in ALL: 2,1 / 2,2 is not turned.
    static void promise04_turned_notWhereAHasMoreAbove() {
        dueSigns("2 above", Checks.plane(-1, -1, -1, 1, 0, 1), 2, 0, 2, 1);
        dueSigns("1 above", Checks.plane(-1, 0, 0, 1, 0, 0), 1, 0, 1, 1);
        Checks.due("1 above", Checks.plane(-1, 0, 0, 1, 0, 0).kind(), 6);
        dueSigns("2 above, 1 below", Checks.space(-1, 0, 0, 0, 1, 0, 0, 1, 0, -1), 2, 1, 2, 2);
        Checks.due("2 above, 1 below", Checks.space(-1, 0, 0, 0, 1, 0, 0, 1, 0, -1).kind(), 13);
    }

    // ---- promise 4: forms at which one row goes over into the next, d = 2

    static void promise04_planeStep_ellipse_point_noPoint() {
        steps(new int[] {0, 0, 0, 1, 0, 1}, 0, 2, 1, 0);
    }

    static void promise04_planeStep_hyperbola_crossingLines_hyperbola() {
        steps(new int[] {0, 0, 0, 1, 0, -1}, 0, 3, 5, 3);
        steps(new int[] {0, 0, 0, 0, 1, 0}, 0, 3, 5, 3);
    }

    static void promise04_planeStep_hyperbola_parallelLines_ellipse() {
        steps(new int[] {-1, 0, 0, 1, 0, 0}, 5, 3, 6, 2);
    }

    static void promise04_planeStep_hyperbola_parabola_ellipse() {
        steps(new int[] {0, 0, 1, 1, 0, 0}, 5, 3, 4, 2);
    }

    static void promise04_planeStep_crossingLines_lineToldTwice_point() {
        steps(new int[] {0, 0, 0, 1, 0, 0}, 5, 5, 9, 1);
    }

    static void promise04_planeStep_hyperbola_noPoint_noPoint() {
        steps(new int[] {1, 0, 0, 1, 0, 0}, 5, 3, 0, 0);
    }

    static void promise04_planeStep_parallelLines_lineToldTwice_noPoint() {
        steps(new int[] {0, 0, 0, 1, 0, 0}, 0, 6, 9, 0);
    }

    static void promise04_planeStep_parabola_lineToldTwice_parabola() {
        steps(new int[] {0, 0, 0, 1, 0, 0}, 2, 4, 9, 4);
    }

    static void promise04_planeStep_parabola_parallelLines_parabola() {
        steps(new int[] {-1, 0, 0, 1, 0, 0}, 2, 4, 6, 4);
    }

    static void promise04_planeStep_parabola_noPoint_parabola() {
        steps(new int[] {1, 0, 0, 1, 0, 0}, 2, 4, 0, 4);
    }

    static void promise04_planeStep_parabola_line_parabola() {
        steps(new int[] {0, 0, 1, 0, 0, 0}, 3, 4, 7, 4);
    }

    static void promise04_planeStep_lineToldTwice_allPoints_lineToldTwice() {
        steps(new int[] {0, 0, 0, 0, 0, 0}, 3, 9, 8, 9);
    }

    static void promise04_planeStep_parallelLines_noPoint_noPoint() {
        steps(new int[] {1, 0, 0, 0, 0, 0}, 3, 6, 0, 0);
    }

    static void promise04_planeStep_parallelLines_line_parallelLines() {
        steps(new int[] {0, 1, 0, 0, 0, 0}, 3, 6, 7, 6);
    }

    static void promise04_planeStep_crossingLines_line_crossingLines() {
        steps(new int[] {0, 1, 0, 0, 0, 0}, 4, 5, 7, 5);
    }

    static void promise04_planeStep_crossingLines_allPoints_crossingLines() {
        steps(new int[] {0, 0, 0, 0, 0, 0}, 4, 5, 8, 5);
    }

    static void promise04_planeStep_noPoint_allPoints_noPoint() {
        steps(new int[] {0, 0, 0, 0, 0, 0}, 0, 0, 8, 0);
    }

    static void promise04_planeStep_line_allPoints_line() {
        steps(new int[] {0, 0, 0, 0, 0, 0}, 1, 7, 8, 7);
        steps(new int[] {0, 0, 0, 0, 0, 0}, 2, 7, 8, 7);
    }

    static void promise04_planeStep_line_noPoint_line() {
        steps(new int[] {1, 0, 0, 0, 0, 0}, 1, 7, 0, 7);
        steps(new int[] {-1, 0, 0, 0, 0, 0}, 2, 7, 0, 7);
    }

    static void promise04_planeStep_lineToldTwice_point_lineToldTwice() {
        steps(new int[] {0, 0, 0, 1, 0, 1}, 4, 9, 1, 9);
    }

    static void promise04_planeStep_parallelLines_ellipse_parallelLines() {
        steps(new int[] {-1, 0, 0, 1, 0, 1}, 4, 6, 2, 6);
    }

    // ---- promise 4: forms at which one row goes over into the next, d = 3

    static void promise04_spaceStep_ellipsoid_point_noPoint() {
        steps(new int[] {0, 0, 0, 0, 1, 0, 0, 1, 0, 1}, 0, 12, 11, 10);
    }

    static void promise04_spaceStep_onePiece_cone_twoPieces() {
        steps(new int[] {0, 0, 0, 0, 1, 0, 0, 1, 0, -1}, 0, 13, 17, 14);
    }

    static void promise04_spaceStep_onePiece_ellipticCylinder_ellipsoid() {
        steps(new int[] {-1, 0, 0, 0, 1, 0, 0, 1, 0, 0}, 9, 13, 18, 12);
    }

    static void promise04_spaceStep_twoPieces_noPoint_noPoint() {
        steps(new int[] {1, 0, 0, 0, 1, 0, 0, 1, 0, 0}, 9, 14, 10, 10);
    }

    static void promise04_spaceStep_cone_line_point() {
        steps(new int[] {0, 0, 0, 0, 1, 0, 0, 1, 0, 0}, 9, 17, 21, 11);
    }

    static void promise04_spaceStep_twoPieces_ellipticParaboloid_ellipsoid() {
        steps(new int[] {0, 0, 0, 1, 1, 0, 0, 1, 0, 0}, 9, 14, 15, 12);
    }

    static void promise04_spaceStep_onePiece_saddle_onePiece() {
        steps(new int[] {0, 0, 0, 1, 1, 0, 0, -1, 0, 0}, 9, 13, 16, 13);
    }

    static void promise04_spaceStep_onePiece_hyperbolicCylinder_twoPieces() {
        steps(new int[] {1, 0, 0, 0, 1, 0, 0, -1, 0, 0}, 9, 13, 19, 14);
    }

    static void promise04_spaceStep_cone_crossingPlanes_cone() {
        steps(new int[] {0, 0, 0, 0, 1, 0, 0, -1, 0, 0}, 9, 17, 22, 17);
    }

    static void promise04_spaceStep_saddle_parabolicCylinder_ellipticParaboloid() {
        steps(new int[] {0, 0, 0, 1, 1, 0, 0, 0, 0, 0}, 7, 16, 20, 15);
    }

    static void promise04_spaceStep_hyperbolicCylinder_parallelPlanes_ellipticCylinder() {
        steps(new int[] {-1, 0, 0, 0, 1, 0, 0, 0, 0, 0}, 7, 19, 23, 18);
    }

    static void promise04_spaceStep_hyperbolicCylinder_noPoint_noPoint() {
        steps(new int[] {1, 0, 0, 0, 1, 0, 0, 0, 0, 0}, 7, 19, 10, 10);
    }

    static void promise04_spaceStep_crossingPlanes_planeToldTwice_line() {
        steps(new int[] {0, 0, 0, 0, 1, 0, 0, 0, 0, 0}, 7, 22, 25, 21);
    }

    static void promise04_spaceStep_hyperbolicCylinder_crossingPlanes_hyperbolicCylinder() {
        steps(new int[] {0, 0, 0, 0, 1, 0, 0, -1, 0, 0}, 0, 19, 22, 19);
    }

    static void promise04_spaceStep_ellipticCylinder_line_noPoint() {
        steps(new int[] {0, 0, 0, 0, 1, 0, 0, 1, 0, 0}, 0, 18, 21, 10);
    }

    static void promise04_spaceStep_parallelPlanes_planeToldTwice_noPoint() {
        steps(new int[] {0, 0, 0, 0, 1, 0, 0, 0, 0, 0}, 0, 23, 25, 10);
    }

    static void promise04_spaceStep_parabolicCylinder_planeToldTwice_parabolicCylinder() {
        steps(new int[] {0, 0, 0, 0, 1, 0, 0, 0, 0, 0}, 3, 20, 25, 20);
    }

    static void promise04_spaceStep_parabolicCylinder_parallelPlanes_parabolicCylinder() {
        steps(new int[] {-1, 0, 0, 0, 1, 0, 0, 0, 0, 0}, 3, 20, 23, 20);
    }

    static void promise04_spaceStep_parabolicCylinder_noPoint_parabolicCylinder() {
        steps(new int[] {1, 0, 0, 0, 1, 0, 0, 0, 0, 0}, 3, 20, 10, 20);
    }

    static void promise04_spaceStep_ellipticParaboloid_line_ellipticParaboloid() {
        steps(new int[] {0, 0, 0, 0, 1, 0, 0, 1, 0, 0}, 3, 15, 21, 15);
    }

    static void promise04_spaceStep_ellipticParaboloid_ellipticCylinder_ellipticParaboloid() {
        steps(new int[] {-1, 0, 0, 0, 1, 0, 0, 1, 0, 0}, 3, 15, 18, 15);
    }

    static void promise04_spaceStep_ellipticParaboloid_noPoint_ellipticParaboloid() {
        steps(new int[] {1, 0, 0, 0, 1, 0, 0, 1, 0, 0}, 3, 15, 10, 15);
    }

    static void promise04_spaceStep_saddle_crossingPlanes_saddle() {
        steps(new int[] {0, 0, 0, 0, 1, 0, 0, -1, 0, 0}, 3, 16, 22, 16);
    }

    static void promise04_spaceStep_saddle_hyperbolicCylinder_saddle() {
        steps(new int[] {1, 0, 0, 0, 1, 0, 0, -1, 0, 0}, 3, 16, 19, 16);
    }

    static void promise04_spaceStep_parabolicCylinder_plane_parabolicCylinder() {
        steps(new int[] {0, 0, 0, 1, 0, 0, 0, 0, 0, 0}, 4, 20, 24, 20);
    }

    static void promise04_spaceStep_planeToldTwice_allPoints_planeToldTwice() {
        steps(new int[] {0, 0, 0, 0, 0, 0, 0, 0, 0, 0}, 9, 25, 26, 25);
    }

    static void promise04_spaceStep_parallelPlanes_noPoint_noPoint() {
        steps(new int[] {1, 0, 0, 0, 0, 0, 0, 0, 0, 0}, 9, 23, 10, 10);
    }

    static void promise04_spaceStep_parallelPlanes_plane_parallelPlanes() {
        steps(new int[] {0, 0, 0, 1, 0, 0, 0, 0, 0, 0}, 9, 23, 24, 23);
    }

    static void promise04_spaceStep_noPoint_allPoints_noPoint() {
        steps(new int[] {0, 0, 0, 0, 0, 0, 0, 0, 0, 0}, 0, 10, 26, 10);
    }

    static void promise04_spaceStep_plane_allPoints_plane() {
        for (int place = 1; place <= 3; place++) {
            steps(new int[] {0, 0, 0, 0, 0, 0, 0, 0, 0, 0}, place, 24, 26, 24);
        }
    }

    static void promise04_spaceStep_plane_noPoint_plane() {
        for (int place = 1; place <= 3; place++) {
            steps(new int[] {1, 0, 0, 0, 0, 0, 0, 0, 0, 0}, place, 24, 10, 24);
        }
    }

    static void promise04_spaceStep_crossingPlanes_allPoints_crossingPlanes() {
        for (int place : new int[] {5, 6, 8}) {
            steps(new int[] {0, 0, 0, 0, 0, 0, 0, 0, 0, 0}, place, 22, 26, 22);
        }
    }

    // ---- promise 4: numbers at their bounds, and determinants that are 0 by a hair

    static void promise04_largest_plane() {
        Checks.due("20 * 18 - 19 * 19 is -1", Checks.plane(1, 0, 0, 20, 19, 18).kind(), 3);
        Checks.due("20 * 20 - 20 * 20 is 0", Checks.plane(-20, 0, 0, 20, 20, 20).kind(), 6);
        Checks.due("20 * 20 - 19 * 19 is 39", Checks.plane(-20, 0, 0, 20, 19, 20).kind(), 2);
        Checks.due("16 * 9 - 12 * 12 is 0", Checks.plane(0, 20, 15, 16, 12, 9).kind(), 6);
        Checks.due("16 * 9 - 12 * 12 is 0", Checks.plane(0, 20, 14, 16, 12, 9).kind(), 4);
        Checks.due("17 * 10 - 13 * 13 is 1", Checks.plane(-1, 0, 0, 17, 13, 10).kind(), 2);
        Checks.due("all 20", Checks.plane(20, 20, 20, 20, 20, 20).kind(), 9);
        Checks.due("all -20", Checks.plane(-20, -20, -20, -20, -20, -20).kind(), 9);
        Checks.due("all 20 but one", Checks.plane(19, 20, 20, 20, 20, 20).kind(), 6);
        Checks.due("all 20 but one", Checks.plane(20, 20, 19, 20, 20, 20).kind(), 4);
    }

    static void promise04_largest_space() {
        Checks.due("all 20", Checks.space(20, 20, 20, 20, 20, 20, 20, 20, 20, 20).kind(), 25);
        Checks.due("all -20", Checks.space(-20, -20, -20, -20, -20, -20, -20, -20, -20, -20).kind(), 25);
        Checks.due("all 20 but m(0, 0)", Checks.space(19, 20, 20, 20, 20, 20, 20, 20, 20, 20).kind(), 23);
        Checks.due("all 20 but m(0, 3)", Checks.space(20, 20, 20, 19, 20, 20, 20, 20, 20, 20).kind(), 20);
        Checks.due("all 20 but m(3, 3)", Checks.space(20, 20, 20, 20, 20, 20, 20, 20, 20, 19).kind(), 22);
        Checks.due("the greatest determinant",
                Checks.space(20, 20, 20, 20, 20, -20, -20, 20, -20, 20).kind(), 14);
    }

    static void promise04_m00AloneDecidesBetweenEllipsePointAndNoPoint() {
        // The middle is 1, -1, and the form of the squares is 3 there.
        Checks.due("2", Checks.plane(2, -1, 2, 2, 1, 3).kind(), 2);
        Checks.due("3", Checks.plane(3, -1, 2, 2, 1, 3).kind(), 1);
        Checks.due("4", Checks.plane(4, -1, 2, 2, 1, 3).kind(), 0);
    }

    static void promise04_changesNothing() {
        for (int d = 2; d <= 3; d++) {
            Refusals.unchanged("kind()", Refusals.regular(d), d == 2 ? 2 : 12, c -> c.kind());
        }
    }

    // ---- promise 5: signs

    static void promise05_whatAt0AndAt3IsTaken() {
        ConicKinds conic = Checks.plane(1, 0, 0, 1, 0, -1);
        Checks.due("signs(0)", conic.signs(0), 1);
        Checks.due("signs(3)", conic.signs(3), 1);
        ConicKinds body = Checks.space(-1, 0, 0, 0, 1, 0, 0, 1, 0, 1);
        Checks.due("signs(0)", body.signs(0), 3);
        Checks.due("signs(3)", body.signs(3), 1);
    }

    static void promise05_whatBelow0IsRefused() {
        for (int what : new int[] {-1, -2, -4, Refusals.LEAST}) {
            Refusals.refusedInBoth("signs(" + what + ")", -2, c -> c.signs(what));
        }
    }

    static void promise05_whatAbove3IsRefused() {
        for (int what : new int[] {4, 5, Refusals.MOST}) {
            Refusals.refusedInBoth("signs(" + what + ")", -2, c -> c.signs(what));
        }
    }

    static void promise05_all0HasNoSigns() {
        dueSigns("d = 2", new ConicKinds(), 0, 0, 0, 0);
        dueSigns("d = 3", Checks.space(0, 0, 0, 0, 0, 0, 0, 0, 0, 0), 0, 0, 0, 0);
    }

    static void promise05_allAboveOrAllBelow() {
        dueSigns("d = 2", Checks.plane(20, 0, 0, 20, 0, 20), 2, 0, 3, 0);
        dueSigns("d = 2", Checks.plane(-20, 0, 0, -20, 0, -20), 0, 2, 0, 3);
        dueSigns("d = 3", Checks.space(20, 0, 0, 0, 20, 0, 0, 20, 0, 20), 3, 0, 4, 0);
        dueSigns("d = 3", Checks.space(-20, 0, 0, 0, -20, 0, 0, -20, 0, -20), 0, 3, 0, 4);
    }

    static void promise05_areNotTurned() {
        dueSigns("x x", Checks.plane(0, 0, 0, 1, 0, 0), 1, 0, 1, 0);
        dueSigns("- x x", Checks.plane(0, 0, 0, -1, 0, 0), 0, 1, 0, 1);
        dueSigns("- 1", Checks.plane(-1, 0, 0, 0, 0, 0), 0, 0, 0, 1);
    }

    static void promise05_equalValuesCountAsOftenAsTheyCome() {
        dueSigns("3, 3", Checks.plane(-3, 0, 0, 3, 0, 3), 2, 0, 2, 1);
        dueSigns("1, 1, 1", Checks.space(1, 0, 0, 0, 1, 0, 0, 1, 0, 1), 3, 0, 4, 0);
    }

    // ---- promise 6: determinant

    private static void dueDeterminants(ConicKinds conic, long... want) {
        for (int what = 0; what <= 3; what++) {
            Checks.due("determinant(" + what + ")", conic.determinant(what), want[what]);
        }
    }

    static void promise06_whatAt0AndAt3IsTaken() {
        dueDeterminants(Checks.plane(7, 0, 0, 2, 3, 5), 1, 7, 7, 1);
        dueDeterminants(Checks.space(-9, 0, 0, 0, 1, 0, 0, 2, 0, 3), 6, -54, 6, 11);
    }

    static void promise06_whatBelow0IsNothing() {
        for (int what : new int[] {-1, -2, Refusals.LEAST}) {
            Refusals.refusedInBoth("determinant(" + what + ")", NOTHING, c -> c.determinant(what));
        }
    }

    static void promise06_whatAbove3IsNothing() {
        for (int what : new int[] {4, 5, Refusals.MOST}) {
            Refusals.refusedInBoth("determinant(" + what + ")", NOTHING, c -> c.determinant(what));
        }
    }

    static void promise06_all0() {
        dueDeterminants(new ConicKinds(), 0, 0, 0, 0);
        dueDeterminants(Checks.space(0, 0, 0, 0, 0, 0, 0, 0, 0, 0), 0, 0, 0, 0);
    }

    static void promise06_greatestAndLeast() {
        dueDeterminants(Checks.plane(20, 20, -20, -20, 20, 20), -800, -32000, 0, -800);
        dueDeterminants(Checks.plane(-20, -20, 20, 20, -20, -20), -800, 32000, 0, -800);
        dueDeterminants(Checks.plane(0, 0, 0, 20, 0, 20), 400, 0, 40, 400);
        dueDeterminants(Checks.plane(0, 0, 0, -20, 0, -20), 400, 0, -40, 400);
        dueDeterminants(Checks.space(20, 20, 20, 20, 20, -20, -20, 20, -20, 20),
                -32000, -2560000, 60, 0);
        dueDeterminants(Checks.space(-20, 20, 20, 20, -20, 20, 20, -20, 20, -20),
                32000, -2560000, -60, 0);
        dueDeterminants(Checks.space(20, 20, 20, 20, -20, 20, -20, -20, -20, 20),
                32000, 2560000, -20, -1600);
    }

    static void promise06_2And3StartAt1() {
        dueDeterminants(Checks.plane(20, 20, 20, 0, 0, 0), 0, 0, 0, 0);
        dueDeterminants(Checks.space(20, 20, 20, 20, 0, 0, 0, 0, 0, 0), 0, 0, 0, 0);
        dueDeterminants(Checks.space(20, 20, 20, 20, 1, 0, 0, 0, 0, 0), 0, 0, 1, 0);
    }

    static void promise06_3TakesEachPairOnce() {
        dueDeterminants(Checks.space(0, 0, 0, 0, 0, 1, 0, 0, 0, 0), 0, 0, 0, -1);
        dueDeterminants(Checks.space(0, 0, 0, 0, 0, 0, 2, 0, 0, 0), 0, 0, 0, -4);
        dueDeterminants(Checks.space(0, 0, 0, 0, 0, 0, 0, 0, 3, 0), 0, 0, 0, -9);
        dueDeterminants(Checks.space(0, 0, 0, 0, 2, 0, 0, 3, 0, 5), 30, 0, 10, 31);
    }
}
