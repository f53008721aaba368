/** Each promise by hand: ordinary inputs and the edges that the document names. */
public final class PromiseTest {
    private static final long NOTHING = Checks.NOTHING;

    // In the order 00, 01, 02, 11, 12, 22, with the KIND behind.
    private static final int[][] PLANE_KINDS = {
        {1, 0, 0, 1, 0, 1, 0}, {1, 0, 0, 1, 0, 0, 0}, {1, 0, 0, 0, 0, 0, 0},
        {0, 0, 0, 1, 0, 1, 1}, {2, -1, -1, 1, 0, 1, 1},
        {-4, 0, 0, 1, 0, 1, 2}, {-20, 3, 1, 2, 1, 3, 2},
        {1, 0, 0, 1, 0, -1, 3}, {-1, 0, 0, 1, 0, -1, 3}, {-2, 0, 0, 0, 1, 0, 3},
        {0, 0, 1, 1, 0, 0, 4}, {5, 1, 0, 1, 1, 1, 4},
        {0, 0, 0, 1, 0, -1, 5}, {0, 0, 0, 1, 0, -2, 5}, {0, 0, 0, 0, 1, 0, 5},
        {-1, 0, 0, 1, 0, 0, 6}, {0, 1, 1, 1, 1, 1, 6},
        {0, 1, 0, 0, 0, 0, 7}, {3, 1, -1, 0, 0, 0, 7},
        {0, 0, 0, 0, 0, 0, 8},
        {0, 0, 0, 1, 0, 0, 9}, {1, 1, 1, 1, 1, 1, 9},
    };

    // In the order 00, 01, 02, 03, 11, 12, 13, 22, 23, 33, with the KIND behind.
    private static final int[][] SPACE_KINDS = {
        {1, 0, 0, 0, 1, 0, 0, 1, 0, 1, 10}, {1, 0, 0, 0, 1, 0, 0, 1, 0, 0, 10},
        {1, 0, 0, 0, 1, 0, 0, 0, 0, 0, 10}, {1, 0, 0, 0, 0, 0, 0, 0, 0, 0, 10},
        {0, 0, 0, 0, 1, 0, 0, 1, 0, 1, 11},
        {-1, 0, 0, 0, 1, 0, 0, 1, 0, 1, 12},
        {-1, 0, 0, 0, 1, 0, 0, 1, 0, -1, 13},
        {1, 0, 0, 0, 1, 0, 0, 1, 0, -1, 14},
        {0, 0, 0, -1, 1, 0, 0, 1, 0, 0, 15},
        {0, 0, 0, -1, 1, 0, 0, -1, 0, 0, 16}, {0, 0, 0, 1, 0, 1, 0, 0, 0, 0, 16},
        {0, 0, 0, 0, 1, 0, 0, 1, 0, -1, 17},
        {-1, 0, 0, 0, 1, 0, 0, 1, 0, 0, 18},
        {-1, 0, 0, 0, 1, 0, 0, -1, 0, 0, 19}, {1, 0, 0, 0, 1, 0, 0, -1, 0, 0, 19},
        {0, 0, 0, -1, 1, 0, 0, 0, 0, 0, 20},
        {0, 0, 0, 0, 1, 0, 0, 1, 0, 0, 21},
        {0, 0, 0, 0, 1, 0, 0, -1, 0, 0, 22}, {0, 0, 0, 0, 0, 0, 1, 0, 0, 0, 22},
        {-1, 0, 0, 0, 1, 0, 0, 0, 0, 0, 23},
        {1, 0, 0, 1, 0, 0, 0, 0, 0, 0, 24},
        {0, 0, 0, 0, 1, 0, 0, 0, 0, 0, 25}, {1, 1, 1, 1, 1, 1, 1, 1, 1, 1, 25},
        {0, 0, 0, 0, 0, 0, 0, 0, 0, 0, 26},
    };

    public static void main(String[] args) {
        newObject();
        dimension();
        put();
        kind();
        signs();
        determinant();
        middles();
        middle();
        height();
        below();
        unlike();
        at();
        polar();
        touches();
        section();
        meets();
        line();
        keepAndAlike();
        Checks.end();
    }

    private static void newObject() {
        ConicKinds conic = new ConicKinds();
        Checks.due("1: alike()", conic.alike(), -3);
        Checks.due("1: kind()", conic.kind(), 8);
        for (int i = 0; i <= 2; i++) {
            for (int j = 0; j <= 2; j++) {
                Checks.due("1: put(i, j, 0)", conic.put(i, j, 0), 0);
            }
        }
        Checks.due("1: put(0, 3, 0)", conic.put(0, 3, 0), NOTHING);
        Checks.due("1: dimension(2)", conic.dimension(2), 2);
        ConicKinds changed = Checks.plane(1, 2, 3, 4, 5, 6);
        changed.keep();
        Checks.due("1: another object", new ConicKinds().alike(), -3);
        Checks.due("1: another object", new ConicKinds().put(2, 2, 1), 0);
    }

    private static void dimension() {
        ConicKinds conic = Checks.plane(1, 2, 3, 4, 5, 6);
        conic.keep();
        Checks.due("2: the same again", conic.dimension(2), 2);
        Checks.due("2: the form", conic.kind(), 8);
        Checks.due("2: nothing kept", conic.alike(), -3);
        Checks.due("2: to 3", conic.dimension(3), 2);
        Checks.fill(conic, 3, 1, 2, 3, 4, 5, 6, 7, 8, 9, 10);
        conic.keep();
        Checks.due("2: from 3", conic.dimension(2), 3);
        Checks.due("2: nothing kept", conic.alike(), -3);
        Checks.due("2: back to 3", conic.dimension(3), 2);
        for (int i = 0; i <= 3; i++) {
            for (int j = 0; j <= 3; j++) {
                Checks.due("2: put(i, j, 0)", conic.put(i, j, 0), 0);
            }
        }
        int[] others = {Integer.MIN_VALUE, -1, 0, 1, 4, Integer.MAX_VALUE};
        for (int d : others) {
            Checks.due("2: dimension(" + d + ")", conic.dimension(d), -2);
        }
        Checks.due("2: still", conic.dimension(3), 3);
    }

    private static void put() {
        ConicKinds conic = new ConicKinds();
        Checks.due("3: put(0, 2, 20)", conic.put(0, 2, 20), 0);
        Checks.due("3: put(2, 0, -20)", conic.put(2, 0, -20), 20);
        Checks.due("3: put(0, 2, 1)", conic.put(0, 2, 1), -20);
        Checks.due("3: put(1, 1, 7)", conic.put(1, 1, 7), 0);
        Checks.due("3: put(1, 1, 8)", conic.put(1, 1, 8), 7);
        conic.dimension(3);
        Checks.due("3: put(3, 2, 5)", conic.put(3, 2, 5), 0);
        Checks.due("3: put(2, 3, 5)", conic.put(2, 3, 5), 5);
        Checks.due("3: put(3, 3, 5)", conic.put(3, 3, 5), 0);
    }

    private static int[] times(int factor, int[] row, int length) {
        int[] m = new int[length];
        for (int i = 0; i < length; i++) {
            m[i] = factor * row[i];
        }
        return m;
    }

    private static void kind() {
        for (int[] row : PLANE_KINDS) {
            for (int factor : new int[] {1, -1}) {
                ConicKinds conic = Checks.plane(times(factor, row, 6));
                Checks.due("4: kind of " + java.util.Arrays.toString(row), conic.kind(), row[6]);
                Checks.due("18: keep of " + java.util.Arrays.toString(row), conic.keep(), row[6]);
            }
        }
        for (int[] row : SPACE_KINDS) {
            for (int factor : new int[] {1, -1, 20}) {
                ConicKinds conic = Checks.space(times(factor, row, 10));
                Checks.due("4: kind of " + java.util.Arrays.toString(row), conic.kind(), row[10]);
                Checks.due("18: keep of " + java.util.Arrays.toString(row), conic.keep(), row[10]);
            }
        }
    }

    private static void dueSigns(ConicKinds conic, int up, int down, int allUp, int allDown) {
        Checks.due("5: signs(0)", conic.signs(0), up);
        Checks.due("5: signs(1)", conic.signs(1), down);
        Checks.due("5: signs(2)", conic.signs(2), allUp);
        Checks.due("5: signs(3)", conic.signs(3), allDown);
    }

    private static void signs() {
        dueSigns(new ConicKinds(), 0, 0, 0, 0);
        dueSigns(Checks.plane(-4, 0, 0, 1, 0, 1), 2, 0, 2, 1);
        dueSigns(Checks.plane(4, 0, 0, -1, 0, -1), 0, 2, 1, 2);
        dueSigns(Checks.plane(0, 0, 0, 0, 1, 0), 1, 1, 1, 1);
        dueSigns(Checks.plane(0, 1, 0, 0, 0, 0), 0, 0, 1, 1);
        dueSigns(Checks.plane(20, 20, 20, 20, 20, 20), 1, 0, 1, 0);
        dueSigns(Checks.space(-1, 0, 0, 0, -1, 0, 0, -1, 0, -1), 0, 3, 0, 4);
        dueSigns(Checks.space(0, 0, 0, -1, -1, 0, 0, -1, 0, 0), 0, 2, 1, 3);
        dueSigns(Checks.space(0, 0, 0, 20, 0, 20, 0, 0, 0, 0), 1, 1, 2, 2);
    }

    private static void dueDeterminants(ConicKinds conic, long a, long all, long sum, long pairs) {
        Checks.due("6: determinant(0)", conic.determinant(0), a);
        Checks.due("6: determinant(1)", conic.determinant(1), all);
        Checks.due("6: determinant(2)", conic.determinant(2), sum);
        Checks.due("6: determinant(3)", conic.determinant(3), pairs);
    }

    private static void determinant() {
        dueDeterminants(new ConicKinds(), 0, 0, 0, 0);
        dueDeterminants(Checks.plane(7, 0, 0, 2, 3, 5), 1, 7, 7, 1);
        dueDeterminants(Checks.plane(1, 2, 3, 4, 5, 6), -1, -1, 10, -1);
        dueDeterminants(Checks.plane(20, 20, -20, -20, 20, 20), -800, -32000, 0, -800);
        dueDeterminants(Checks.space(-9, 0, 0, 0, 1, 0, 0, 2, 0, 3), 6, -54, 6, 11);
        dueDeterminants(Checks.space(20, 20, 20, 20, 20, -20, -20, 20, -20, 20),
                -32000, -2560000, 60, 0);
    }

    private static void middles() {
        Checks.due("7: ellipse", Checks.plane(-20, 3, 1, 2, 1, 3).middles(), 0);
        Checks.due("7: parallel lines", Checks.plane(0, 1, 1, 1, 1, 1).middles(), 1);
        Checks.due("7: line told twice", Checks.plane(1, 1, 1, 1, 1, 1).middles(), 1);
        Checks.due("7: parabola", Checks.plane(0, 0, 1, 1, 0, 0).middles(), -3);
        Checks.due("7: a line", Checks.plane(0, 1, 0, 0, 0, 0).middles(), -3);
        Checks.due("7: only a number", Checks.plane(5, 0, 0, 0, 0, 0).middles(), 2);
        Checks.due("7: x x + 2 x + 9", Checks.plane(9, 1, 0, 1, 0, 0).middles(), 1);
        Checks.due("7: sphere", Checks.space(-1, 5, 0, 0, 1, 0, 0, 1, 0, 1).middles(), 0);
        Checks.due("7: cylinder", Checks.space(-1, 2, 0, 0, 1, 0, 0, 1, 0, 0).middles(), 1);
        Checks.due("7: parallel planes", Checks.space(-1, 2, 0, 0, 1, 0, 0, 0, 0, 0).middles(), 2);
        Checks.due("7: only a number", Checks.space(-1, 0, 0, 0, 0, 0, 0, 0, 0, 0).middles(), 3);
        Checks.due("7: a plane", Checks.space(0, 0, 0, 1, 0, 0, 0, 0, 0, 0).middles(), -3);
        Checks.due("7: saddle", Checks.space(0, 0, 0, 1, 0, 1, 0, 0, 0, 0).middles(), -3);
        Checks.due("7: parabolic cylinder", Checks.space(0, 0, 0, 1, 1, 0, 0, 0, 0, 0).middles(), -3);
    }

    private static void middle() {
        ConicKinds conic = Checks.plane(0, 4, 3, -6, 0, 9);
        Checks.due("8: middle(1, 0)", conic.middle(1, 0), 2);
        Checks.due("8: middle(1, 1)", conic.middle(1, 1), 3);
        Checks.due("8: middle(2, 0)", conic.middle(2, 0), -1);
        Checks.due("8: middle(2, 1)", conic.middle(2, 1), 3);
        conic.put(0, 2, 0);
        Checks.due("8: middle(2, 0)", conic.middle(2, 0), 0);
        Checks.due("8: middle(2, 1)", conic.middle(2, 1), 1);
        Checks.due("8: middle(3, 0)", conic.middle(3, 0), NOTHING);
        Checks.due("8: middle(0, 0)", conic.middle(0, 0), NOTHING);
        Checks.due("8: middle(1, 2)", conic.middle(1, 2), NOTHING);
        Checks.due("8: middle(1, -1)", conic.middle(1, -1), NOTHING);
        Checks.due("8: a line of them", Checks.plane(0, 1, 1, 1, 1, 1).middle(1, 0), NOTHING);
        Checks.due("8: none", Checks.plane(0, 0, 1, 1, 0, 0).middle(1, 0), NOTHING);
        ConicKinds body = Checks.space(0, 1, -2, 3, 2, 0, 0, 4, 0, -9);
        Checks.due("8: middle(1, 0)", body.middle(1, 0), -1);
        Checks.due("8: middle(1, 1)", body.middle(1, 1), 2);
        Checks.due("8: middle(2, 0)", body.middle(2, 0), 1);
        Checks.due("8: middle(2, 1)", body.middle(2, 1), 2);
        Checks.due("8: middle(3, 0)", body.middle(3, 0), 1);
        Checks.due("8: middle(3, 1)", body.middle(3, 1), 3);
        Checks.due("8: middle(4, 1)", body.middle(4, 1), NOTHING);
    }

    private static void height() {
        ConicKinds conic = Checks.plane(-4, 0, 0, 1, 0, 1);
        Checks.due("9: height(0)", conic.height(0), -4);
        Checks.due("9: height(1)", conic.height(1), 1);
        // At its MIDDLE (2 / 3, 0) this is 4 * 2 / 3 = 8 / 3.
        ConicKinds shifted = Checks.plane(0, 4, 0, -6, 0, 9);
        Checks.due("9: height(0)", shifted.height(0), 8);
        Checks.due("9: height(1)", shifted.height(1), 3);
        ConicKinds body = Checks.space(0, 1, 0, 0, -3, 0, 0, -3, 0, -3);
        Checks.due("9: height(0)", body.height(0), 1);
        Checks.due("9: height(1)", body.height(1), 3);
        ConicKinds cone = Checks.space(0, 0, 0, 0, 7, 0, 0, 7, 0, -7);
        Checks.due("9: height(0)", cone.height(0), 0);
        Checks.due("9: height(1)", cone.height(1), 1);
        ConicKinds parabola = Checks.plane(0, 0, 1, 1, 0, 0);
        Checks.dueArithmetic("9: height(0)", () -> parabola.height(0));
        Checks.dueArithmetic("9: height(1)", () -> parabola.height(1));
        Checks.dueArithmetic("9: height(0) of d = 3",
                () -> Checks.space(1, 0, 0, 0, 1, 0, 0, 1, 0, 0).height(0));
        Checks.due("9: the part is named first", parabola.height(2), NOTHING);
        Checks.due("9: the part is named first", parabola.height(-1), NOTHING);
        Checks.due("9: height(2)", conic.height(2), NOTHING);
    }

    private static void below() {
        ConicKinds conic = Checks.plane(9, 9, 9, 3, 0, -5);
        Checks.due("10: below(3, 1)", conic.below(3, 1), 1);
        Checks.due("10: below(301, 100)", conic.below(301, 100), 2);
        Checks.due("10: below(-5, 1)", conic.below(-5, 1), 0);
        Checks.due("10: below(-499, 100)", conic.below(-499, 100), 1);
        Checks.due("10: below(2000, 1)", conic.below(2000, 1), 2);
        Checks.due("10: below(-2000, 1)", conic.below(-2000, 1), 0);
        // The VALUES of 1, 1 / 1, 0 are 1.618.. and -0.618..
        ConicKinds golden = Checks.plane(0, 0, 0, 1, 1, 0);
        Checks.due("10: below(161, 100)", golden.below(161, 100), 1);
        Checks.due("10: below(162, 100)", golden.below(162, 100), 2);
        Checks.due("10: below(-61, 100)", golden.below(-61, 100), 1);
        Checks.due("10: below(-62, 100)", golden.below(-62, 100), 0);
        // The VALUES are 60, 0, 0.
        ConicKinds body = Checks.space(0, 0, 0, 0, 20, 20, 20, 20, 20, 20);
        Checks.due("10: below(0, 7)", body.below(0, 7), 0);
        Checks.due("10: below(1, 100)", body.below(1, 100), 2);
        Checks.due("10: below(60, 1)", body.below(60, 1), 2);
        Checks.due("10: below(1981, 33)", body.below(1981, 33), 3);
        Checks.due("10: below(2001, 1)", body.below(2001, 1), -2);
        Checks.due("10: below(-2001, 1)", body.below(-2001, 1), -2);
        Checks.due("10: below(0, 0)", body.below(0, 0), -2);
        Checks.due("10: below(0, 101)", body.below(0, 101), -2);
        Checks.due("10: below(0, -1)", body.below(0, -1), -2);
    }

    private static void unlike() {
        Checks.due("11: all 0", new ConicKinds().unlike(), 1);
        Checks.due("11: circle", Checks.plane(3, 4, 5, 2, 0, 2).unlike(), 1);
        Checks.due("11: 1 and 2", Checks.plane(0, 0, 0, 2, 0, 1).unlike(), 2);
        Checks.due("11: turned", Checks.plane(0, 0, 0, 2, 1, 2).unlike(), 2);
        Checks.due("11: all 0 of d = 3", Checks.space(1, 2, 3, 4, 0, 0, 0, 0, 0, 0).unlike(), 1);
        Checks.due("11: 5, 5, 5", Checks.space(1, 2, 3, 4, 5, 0, 0, 5, 0, 5).unlike(), 1);
        Checks.due("11: 5, 5, 6", Checks.space(0, 0, 0, 0, 5, 0, 0, 5, 0, 6).unlike(), 2);
        Checks.due("11: 60, 0, 0", Checks.space(0, 0, 0, 0, 20, 20, 20, 20, 20, 20).unlike(), 2);
        Checks.due("11: 3, 0, 0", Checks.space(0, 0, 0, 0, 1, -1, 1, 1, -1, 1).unlike(), 2);
        Checks.due("11: 1, 2, 3", Checks.space(0, 0, 0, 0, 1, 0, 0, 2, 0, 3).unlike(), 3);
        Checks.due("11: 1, -1, 0", Checks.space(0, 0, 0, 0, 0, 1, 0, 0, 0, 0).unlike(), 3);
    }

    private static void at() {
        ConicKinds circle = Checks.plane(-1, 0, 0, 1, 0, 1);
        Checks.due("12: on it", circle.at(3, 4, 0, 5), 1);
        Checks.due("12: within", circle.at(3, 3, 0, 5), 0);
        Checks.due("12: outside", circle.at(4, 4, 0, 5), 2);
        Checks.due("12: z does not count", circle.at(3, 4, 5000, 5), 1);
        Checks.due("12: z does not count", circle.at(-3, 4, Integer.MIN_VALUE, 5), 1);
        Checks.due("12: at its bounds", circle.at(1000, -1000, 0, 100), 2);
        ConicKinds product = Checks.plane(0, 1, 0, 0, 1, 0);
        Checks.due("12: 2 x (1 + y)", product.at(-3, -1, 0, 1), 1);
        Checks.due("12: 2 x (1 + y)", product.at(-3, -3, 0, 2), 2);
        Checks.due("12: 2 x (1 + y)", product.at(-3, -1, 0, 2), 0);
        ConicKinds ball = Checks.space(-9, 0, 0, 0, 1, 0, 0, 1, 0, 1);
        Checks.due("12: on it", ball.at(-2, 4, 4, 2), 1);
        Checks.due("12: z counts", ball.at(-2, 4, 5, 2), 2);
        Checks.due("12: z counts", ball.at(-2, 4, 3, 2), 0);
        int[][] wrong = {{0, 0, 0, 0}, {0, 0, 0, 101}, {0, 0, 0, -1}, {1001, 0, 0, 1},
            {-1001, 0, 0, 1}, {0, 1001, 0, 1}, {0, Integer.MIN_VALUE, 0, 1}};
        for (int[] p : wrong) {
            Checks.due("12: beyond", circle.at(p[0], p[1], p[2], p[3]), -2);
            Checks.due("12: beyond", ball.at(p[0], p[1], p[2], p[3]), -2);
            Checks.due("13: beyond", circle.polar(p[0], p[1], p[2], p[3], 0), NOTHING);
            Checks.due("13: beyond", ball.polar(p[0], p[1], p[2], p[3], 0), NOTHING);
        }
        Checks.due("12: z beyond", ball.at(0, 0, 1001, 1), -2);
        Checks.due("12: z beyond", ball.at(0, 0, -1001, 1), -2);
        Checks.due("13: z beyond", ball.polar(0, 0, -1001, 1, 0), NOTHING);
    }

    private static void duePolar(ConicKinds conic, int[] point, long... row) {
        for (int i = 0; i < row.length; i++) {
            Checks.due("13: polar number " + i,
                    conic.polar(point[0], point[1], point[2], point[3], i), row[i]);
        }
        Checks.due("13: no such number",
                conic.polar(point[0], point[1], point[2], point[3], row.length), NOTHING);
        Checks.due("13: no such number",
                conic.polar(point[0], point[1], point[2], point[3], -1), NOTHING);
    }

    private static void polar() {
        ConicKinds circle = Checks.plane(-4, 0, 0, 1, 0, 1);
        duePolar(circle, new int[] {6, 0, 0, 1}, 2, -3, 0);
        duePolar(circle, new int[] {0, 6, 5000, 3}, 2, 0, -1);
        duePolar(circle, new int[] {0, 0, 0, 100}, 1, 0, 0);
        duePolar(Checks.plane(0, 0, 0, -3, 0, 6), new int[] {2, 2, 0, 1}, 0, 1, -2);
        duePolar(Checks.plane(0, 0, 0, 1, 0, 1), new int[] {0, 0, 0, 1},
                NOTHING, NOTHING, NOTHING);
        duePolar(Checks.plane(1, 2, 3, 4, 5, 6), new int[] {1000, -1000, 0, 1},
                999, 998, 997);
        duePolar(Checks.space(-9, 0, 0, 0, 1, 0, 0, 1, 0, 1), new int[] {6, -3, 9, 2},
                6, -2, 1, -3);
        duePolar(Checks.space(0, 0, 0, 5, 0, 0, 0, 0, 0, 0), new int[] {1, 1, 0, 1}, 0, 0, 0, 1);
        duePolar(new ConicKinds(), new int[] {1, 1, 1, 1}, NOTHING, NOTHING, NOTHING);
    }

    private static void touches() {
        ConicKinds circle = Checks.plane(-4, 0, 0, 1, 0, 1);
        Checks.due("14: x = 2", circle.touches(-2, 1, 0, 0), 1);
        Checks.due("14: -2 x = 4", circle.touches(4, 2, 0, 0), 1);
        Checks.due("14: 3 x + 4 y = 10", circle.touches(-10, 3, 4, 0), 1);
        Checks.due("14: 3 x + 4 y = 9", circle.touches(-9, 3, 4, 0), 0);
        Checks.due("14: u3 does not count", circle.touches(-2, 1, 0, Integer.MIN_VALUE), 1);
        Checks.due("14: u3 does not count", circle.touches(-2, 0, 0, 1), -2);
        ConicKinds hyperbola = Checks.plane(-1, 0, 0, 1, 0, -1);
        Checks.due("14: infinitely far", hyperbola.touches(0, 1, 1, 0), 1);
        Checks.due("14: parallel to that", hyperbola.touches(1, 1, 1, 0), 0);
        Checks.due("14: y = 0 of y y - 2 x", Checks.plane(0, -1, 0, 0, 0, 1).touches(0, 0, 1, 0), 0);
        Checks.due("14: x = 0 of y y - 2 x", Checks.plane(0, -1, 0, 0, 0, 1).touches(0, 1, 0, 0), 1);
        Checks.due("14: no point", Checks.plane(1, 0, 0, 1, 0, 1).touches(1, 1, 0, 0), 0);
        Checks.due("14: two lines", Checks.plane(0, 0, 0, 1, 0, -1).touches(0, 1, 1, 0), -3);
        Checks.due("14: bounds are named first", Checks.plane(0, 0, 0, 1, 0, -1).touches(0, 0, 0, 1), -2);
        Checks.due("14: bounds are named first", Checks.plane(0, 0, 0, 1, 0, -1).touches(0, 21, 0, 1), -2);
        Checks.due("14: beyond", circle.touches(21, 1, 0, 0), -2);
        Checks.due("14: beyond", circle.touches(0, -21, 0, 0), -2);
        Checks.due("14: beyond", circle.touches(0, 1, 21, 0), -2);
        Checks.due("14: at its bounds", circle.touches(20, -20, 20, 0), 0);
        ConicKinds ball = Checks.space(-9, 0, 0, 0, 1, 0, 0, 1, 0, 1);
        Checks.due("14: x + 2 y + 2 z = 9", ball.touches(-9, 1, 2, 2), 1);
        Checks.due("14: x + 2 y + 2 z = 8", ball.touches(-8, 1, 2, 2), 0);
        Checks.due("14: z = 3", ball.touches(-3, 0, 0, 1), 1);
        Checks.due("14: beyond", ball.touches(0, 1, 0, 21), -2);
        Checks.due("14: saddle", Checks.space(0, 0, 0, -1, 1, 0, 0, -1, 0, 0).touches(0, 1, 1, 0), 1);
        Checks.due("14: cone", Checks.space(0, 0, 0, 0, 1, 0, 0, 1, 0, -1).touches(0, 1, 0, 1), -3);
    }

    private static void section() {
        ConicKinds ball = Checks.space(-9, 0, 0, 0, 1, 0, 0, 1, 0, 1);
        Checks.due("15: circle", ball.section(1, 2, 2, 8), 2);
        Checks.due("15: a point", ball.section(1, 2, 2, 9), 1);
        Checks.due("15: no point", ball.section(1, 2, 2, 10), 0);
        Checks.due("15: a point", ball.section(-1, 2, -2, -9), 1);
        Checks.due("15: x = 3", ball.section(1, 0, 0, 3), 1);
        Checks.due("15: y = -3", ball.section(0, 2, 0, -6), 1);
        ConicKinds cylinder = Checks.space(-1, 0, 0, 0, 1, 0, 0, 1, 0, 0);
        Checks.due("15: two lines", cylinder.section(1, 0, 0, 0), 6);
        Checks.due("15: a line told twice", cylinder.section(1, 0, 0, 1), 9);
        Checks.due("15: no point", cylinder.section(1, 0, 0, 2), 0);
        Checks.due("15: ellipse", cylinder.section(5, 0, 1, 10), 2);
        ConicKinds saddle = Checks.space(0, 0, 0, -1, 1, 0, 0, -1, 0, 0);
        Checks.due("15: hyperbola", saddle.section(0, 0, 1, 3), 3);
        Checks.due("15: parabola", saddle.section(1, 0, 0, 3), 4);
        Checks.due("15: crossing lines", saddle.section(0, 0, 10, 0), 5);
        Checks.due("15: a line", saddle.section(1, -1, 0, 7), 7);
        ConicKinds planes = Checks.space(0, 0, 0, 0, 1, 0, 0, -1, 0, 0);
        Checks.due("15: all points", planes.section(1, -1, 0, 0), 8);
        Checks.due("15: all points", planes.section(-10, -10, 0, 0), 8);
        Checks.due("15: no point of a plane", Checks.space(1, 0, 0, 1, 0, 0, 0, 0, 0, 0).section(0, 0, 1, 5), 0);
        Checks.due("15: beyond", ball.section(11, 0, 0, 0), -2);
        Checks.due("15: beyond", ball.section(0, -11, 0, 0), -2);
        Checks.due("15: beyond", ball.section(1, 0, 11, 0), -2);
        Checks.due("15: beyond", ball.section(1, 0, 0, -11), -2);
        Checks.due("15: beyond", ball.section(1, 0, 0, Integer.MIN_VALUE), -2);
        Checks.due("15: no plane", ball.section(0, 0, 0, 0), -2);
        Checks.due("15: d = 2 is named first", new ConicKinds().section(0, 0, 0, 99), -3);
        Checks.due("15: d = 2", new ConicKinds().section(1, 0, 0, 0), -3);
    }

    private static void meets() {
        ConicKinds circle = Checks.plane(-4, 0, 0, 1, 0, 1);
        Checks.due("16: two", circle.meets(0, 0, 0, 1, 1, 0), 2);
        Checks.due("16: two", circle.meets(20, 19, 99, 20, 20, -99), 2);
        Checks.due("16: one", circle.meets(2, 5, 0, 0, -3, 0), 1);
        Checks.due("16: none", circle.meets(3, 5, 0, 0, -3, 0), 0);
        ConicKinds hyperbola = Checks.plane(-1, 0, 0, 1, 0, -1);
        Checks.due("16: asymptote", hyperbola.meets(0, 0, 0, 1, 1, 0), 0);
        Checks.due("16: parallel to that", hyperbola.meets(1, 0, 0, 1, 1, 0), 1);
        ConicKinds lines = Checks.plane(0, 0, 0, 1, 0, -1);
        Checks.due("16: all of it", lines.meets(3, 3, 0, -2, -2, 0), 3);
        Checks.due("16: parallel to that", lines.meets(3, 4, 0, -2, -2, 0), 1);
        Checks.due("16: where they cross", lines.meets(0, 0, 0, 1, 0, 0), 1);
        Checks.due("16: all points", new ConicKinds().meets(0, 0, 0, 1, 0, 0), 3);
        Checks.due("16: z, w do not count", circle.meets(0, 0, Integer.MAX_VALUE, 1, 1, 21), 2);
        Checks.due("16: w does not count", circle.meets(0, 0, 0, 0, 0, 1), -2);
        ConicKinds hyperboloid = Checks.space(-1, 0, 0, 0, 1, 0, 0, 1, 0, -1);
        Checks.due("16: all of it", hyperboloid.meets(1, 0, 0, 0, 1, 1), 3);
        Checks.due("16: two", hyperboloid.meets(0, 0, 1, 1, 0, 0), 2);
        Checks.due("16: none", hyperboloid.meets(0, 0, 1, 0, 0, 1), 0);
        Checks.due("16: one", hyperboloid.meets(1, 0, 0, 0, 2, 0), 1);
        for (int k = 0; k < 6; k++) {
            for (int v : new int[] {21, -21, Integer.MIN_VALUE}) {
                int[] p = {1, 1, 1, 1, 1, 1};
                p[k] = v;
                boolean counts = k % 3 != 2;
                Checks.due("16: beyond", hyperboloid.meets(p[0], p[1], p[2], p[3], p[4], p[5]), -2);
                Checks.due("16: beyond", circle.meets(p[0], p[1], p[2], p[3], p[4], p[5]), counts ? -2 : 2);
            }
        }
        Checks.due("16: no line", hyperboloid.meets(1, 2, 3, 0, 0, 0), -2);
        Checks.due("16: w counts", hyperboloid.meets(1, 2, 3, 0, 0, 1), 2);
    }

    private static void dueLine(ConicKinds conic, int k, long u0, long u1, long u2) {
        Checks.due("17: line(" + k + ", 0)", conic.line(k, 0), u0);
        Checks.due("17: line(" + k + ", 1)", conic.line(k, 1), u1);
        Checks.due("17: line(" + k + ", 2)", conic.line(k, 2), u2);
        Checks.due("17: line(" + k + ", 3)", conic.line(k, 3), NOTHING);
        Checks.due("17: line(" + k + ", -1)", conic.line(k, -1), NOTHING);
        Checks.due("17: line(2, 0)", conic.line(2, 0), NOTHING);
        Checks.due("17: line(-1, 0)", conic.line(-1, 0), NOTHING);
    }

    private static void dueNoLine(ConicKinds conic, int k) {
        dueLine(conic, k, NOTHING, NOTHING, NOTHING);
    }

    private static void line() {
        ConicKinds crossing = Checks.plane(0, 0, 0, 2, 0, -8);
        dueLine(crossing, 0, 0, 1, -2);
        dueLine(crossing, 1, 0, 1, 2);
        // 2 (x + 2 y - 3) (3 x - y): the second stands first, as 0 is less than 3.
        ConicKinds shifted = Checks.plane(0, -9, 3, 6, 5, -4);
        dueLine(shifted, 0, 0, 3, -1);
        dueLine(shifted, 1, 3, -1, -2);
        ConicKinds axes = Checks.plane(0, 0, 0, 0, -7, 0);
        dueLine(axes, 0, 0, 0, 1);
        dueLine(axes, 1, 0, 1, 0);
        ConicKinds parallel = Checks.plane(-9, 0, 0, 4, 0, 0);
        dueLine(parallel, 0, 3, -2, 0);
        dueLine(parallel, 1, 3, 2, 0);
        ConicKinds skew = Checks.plane(0, 1, 1, 1, 1, 1);
        dueLine(skew, 0, 0, 1, 1);
        dueLine(skew, 1, 2, 1, 1);
        ConicKinds one = Checks.plane(-6, 3, -6, 0, 0, 0);
        dueLine(one, 0, 1, -1, 2);
        dueNoLine(one, 1);
        ConicKinds twice = Checks.plane(-2, 4, -6, -8, 12, -18);
        dueLine(twice, 0, 1, -2, 3);
        dueNoLine(twice, 1);
        dueLine(Checks.plane(0, 0, 0, 0, 0, -5), 0, 0, 0, 1);
        dueNoLine(Checks.plane(0, 0, 0, 1, 0, -2), 0);
        dueNoLine(Checks.plane(0, 0, 0, 1, 0, -2), 1);
        dueNoLine(Checks.plane(-2, 0, 0, 1, 0, 0), 0);
        dueNoLine(Checks.plane(-4, 0, 0, 1, 0, 1), 0);
        dueNoLine(Checks.plane(0, 0, 0, 1, 0, 1), 0);
        dueNoLine(new ConicKinds(), 0);
        dueNoLine(Checks.space(0, 0, 0, 0, 1, 0, 0, -1, 0, 0), 0);
        dueNoLine(Checks.space(0, 1, 0, 0, 0, 0, 0, 0, 0, 0), 0);
    }

    private static void keepAndAlike() {
        ConicKinds conic = Checks.plane(-4, 0, 6, 2, 0, 2);
        Checks.due("19: none kept", conic.alike(), -3);
        Checks.due("18: keep()", conic.keep(), 2);
        Checks.due("19: itself", conic.alike(), 1);
        Checks.fill(conic, 2, 6, 0, -9, -3, 0, -3);
        Checks.due("19: by -3 / 2", conic.alike(), 1);
        conic.put(0, 1, 1);
        Checks.due("19: not any more", conic.alike(), 0);
        Checks.fill(conic, 2, 0, 0, 0, 0, 0, 0);
        Checks.due("19: by 0", conic.alike(), 0);
        Checks.due("18: another in its place", conic.keep(), 8);
        Checks.due("19: both all 0", conic.alike(), 1);
        conic.put(2, 2, 1);
        Checks.due("19: kept is all 0", conic.alike(), 0);
        ConicKinds body = Checks.space(0, 0, 0, 0, 0, 0, 0, 0, 0, 4);
        Checks.due("18: keep()", body.keep(), 25);
        body.put(3, 3, -6);
        Checks.due("19: by -3 / 2", body.alike(), 1);
        body.put(2, 3, 1);
        Checks.due("19: not any more", body.alike(), 0);
        body.put(2, 3, 0);
        body.put(3, 3, 0);
        Checks.due("19: by 0", body.alike(), 0);
        body.dimension(3);
        Checks.due("19: none kept", body.alike(), -3);
    }
}
