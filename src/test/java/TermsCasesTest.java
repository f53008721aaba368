/** The section "Terms", as far as a sentence there is of more than one promise, case by case. */
public final class TermsCasesTest {
    private static final long NOTHING = Checks.NOTHING;

    public static void main(String[] args) throws IllegalAccessException {
        Cases.run(TermsCasesTest.class);
    }

    // ---- THE DIMENSION and THE FORM

    static void terms_form_placesBesideTheMiddleCountTwice() {
        ConicKinds conic = Checks.plane(1, -1, 0, 0, 0, 0);
        Checks.due("1 - 2 x at 1 / 2", conic.at(1, 0, 0, 2), 1);
        Checks.due("1 - 2 x at 49 / 100", conic.at(49, 0, 0, 100), 2);
        Checks.due("1 - 2 x at 51 / 100", conic.at(51, 0, 0, 100), 0);
        ConicKinds product = Checks.plane(-1, 0, 0, 0, 1, 0);
        Checks.due("2 x y - 1 at 1 / 2, 1", product.at(1, 2, 0, 2), 1);
    }

    static void terms_form_x0Is1() {
        ConicKinds conic = Checks.plane(-20, 0, 0, 0, 0, 0);
        Checks.due("-20 at 0, 0", conic.at(0, 0, 0, 1), 0);
        Checks.due("-20 at 10, 10", conic.at(1000, 1000, 0, 100), 0);
    }

    static void terms_form_all0InBothDimensions() {
        ConicKinds conic = new ConicKinds();
        Checks.due("d = 2", conic.kind(), 8);
        conic.dimension(3);
        Checks.due("d = 3", conic.kind(), 26);
        for (int what = 0; what <= 3; what++) {
            Checks.due("signs", conic.signs(what), 0);
            Checks.due("determinant", conic.determinant(what), 0);
        }
        Checks.due("middles()", conic.middles(), 3);
        Checks.due("middle(3, 1)", conic.middle(3, 1), NOTHING);
        Checks.dueArithmetic("height(1)", () -> conic.height(1));
        Checks.due("below(1, 100)", conic.below(1, 100), 3);
        Checks.due("unlike()", conic.unlike(), 1);
        Checks.due("at", conic.at(1, 2, 3, 4), 1);
        Checks.due("polar", conic.polar(1, 2, 3, 4, 3), NOTHING);
        Checks.due("touches", conic.touches(1, 1, 1, 1), -3);
        Checks.due("section", conic.section(1, 1, 1, 1), 8);
        Checks.due("meets", conic.meets(1, 1, 1, 1, 1, 1), 3);
        Checks.due("line", conic.line(0, 0), NOTHING);
    }

    static void terms_form_bothDimensionsTakeTheSameNumbers() {
        Checks.due("a circle", Checks.plane(-1, 0, 0, 1, 0, 1).kind(), 2);
        Checks.due("a cylinder", Checks.space(-1, 0, 0, 0, 1, 0, 0, 1, 0, 0).kind(), 18);
    }

    static void terms_dimension_changeLeavesNoNumberOfRow3() {
        ConicKinds conic = Checks.space(1, 2, 3, 4, 5, 6, 7, 8, 9, 10);
        conic.dimension(2);
        Checks.fill(conic, 2, -1, 0, 0, 1, 0, 1);
        Checks.due("kind()", conic.kind(), 2);
        Checks.due("determinant(1)", conic.determinant(1), -1);
        Checks.due("determinant(2)", conic.determinant(2), 2);
        Checks.due("at, z 9", conic.at(3, 4, 9, 5), 1);
        conic.dimension(3);
        Checks.fill(conic, 3, -1, 0, 0, 0, 1, 0, 0, 1, 0, 0);
        Checks.due("kind() with 3", conic.kind(), 18);
    }

    // Each call with 3 leaves numbers in the object's room for work; with 2 they must not count.
    static void terms_dimension_changeLeavesNoWork() {
        ConicKinds conic = Checks.space(20, 20, 20, 20, 20, -20, -20, 20, -20, 20);
        conic.section(10, 10, 10, 10);
        conic.meets(20, 20, 20, 20, 20, 20);
        conic.polar(1000, 1000, 1000, 1, 3);
        conic.touches(20, 20, 20, 20);
        conic.dimension(2);
        Checks.fill(conic, 2, -4, 0, 0, 1, 0, 1);
        Checks.due("below(1, 1)", conic.below(1, 1), 0);
        Checks.due("polar", conic.polar(1, 1, 7, 1, 0), 4);
        Checks.due("touches", conic.touches(-2, 1, 0, 9), 1);
        Checks.due("meets", conic.meets(2, 5, 9, 0, 1, 9), 1);
        Checks.fill(conic, 2, 0, 0, 0, 2, 0, -8);
        Checks.due("line(0, 2)", conic.line(0, 2), -2);
    }

    // ---- KINDS

    static void terms_kinds_7And24WithAAll0() {
        ConicKinds plane = Checks.plane(3, 2, -1, 0, 0, 0);
        Checks.due("a line", plane.kind(), 7);
        Checks.due("signs(0)", plane.signs(0), 0);
        Checks.due("signs(1)", plane.signs(1), 0);
        Checks.due("a plane", Checks.space(3, 2, -1, 5, 0, 0, 0, 0, 0, 0).kind(), 24);
    }

    static void terms_kinds_9And25WithANotAll0() {
        Checks.due("a line told twice", Checks.plane(9, 6, -3, 4, -2, 1).kind(), 9);
        Checks.due("a plane told twice", Checks.space(9, 6, -3, 0, 4, -2, 0, 1, 0, 0).kind(), 25);
    }

    static void terms_kinds_aCircleIsAnEllipse() {
        Checks.due("circle", Checks.plane(-1, 0, 0, 1, 0, 1).kind(), 2);
        Checks.due("ellipse", Checks.plane(-1, 0, 0, 2, 0, 1).kind(), 2);
    }

    // ---- REFUSALS

    static void terms_refusals_changeNothing() {
        for (int d = 2; d <= 3; d++) {
            Refusals.refused("dimension", d, -2, c -> c.dimension(5));
            Refusals.refused("put", d, NOTHING, c -> c.put(0, 0, 99));
            Refusals.refused("signs", d, -2, c -> c.signs(9));
            Refusals.refused("determinant", d, NOTHING, c -> c.determinant(9));
            Refusals.refused("middle", d, NOTHING, c -> c.middle(9, 0));
            Refusals.refused("height", d, NOTHING, c -> c.height(9));
            Refusals.refused("below", d, -2, c -> c.below(0, 0));
            Refusals.refused("at", d, -2, c -> c.at(0, 0, 0, 0));
            Refusals.refused("polar", d, NOTHING, c -> c.polar(0, 0, 0, 0, 0));
            Refusals.refused("touches", d, -2, c -> c.touches(0, 0, 0, 0));
            Refusals.refused("section", d, d == 2 ? -3 : -2, c -> c.section(0, 0, 0, 0));
            Refusals.refused("meets", d, -2, c -> c.meets(0, 0, 0, 0, 0, 0));
            Refusals.refused("line", d, NOTHING, c -> c.line(0, 0));
        }
    }

    static void terms_refusals_leaveWhatTheNextCallAnswers() {
        ConicKinds conic = Checks.plane(-4, 0, 0, 1, 0, 1);
        conic.touches(0, 0, 0, 0);
        Checks.due("touches", conic.touches(-2, 1, 0, 0), 1);
        conic.meets(0, 0, 0, 21, 0, 0);
        Checks.due("meets", conic.meets(2, 5, 0, 0, 1, 0), 1);
        conic.polar(5, 5, 5, 101, 0);
        Checks.due("polar", conic.polar(1, 1, 0, 1, 0), 4);
        conic.at(5, 5, 5, 0);
        Checks.due("at", conic.at(2, 0, 0, 1), 1);
    }

    static void terms_refusals_ofSeveralTheOneNamedFirst() {
        Refusals.unchanged("section: d is 2, then bounds", new ConicKinds(), -3, c -> c.section(99, 0, 0, 0));
        Refusals.unchanged("section: d is 2, then all 0", new ConicKinds(), -3, c -> c.section(0, 0, 0, 0));
        Refusals.unchanged("touches: bounds, then the determinant", new ConicKinds(), -2,
                c -> c.touches(99, 1, 1, 1));
        Refusals.unchanged("touches: all 0, then the determinant", new ConicKinds(), -2,
                c -> c.touches(1, 0, 0, 0));
        Refusals.unchanged("height: part, then the determinant", new ConicKinds(), NOTHING, c -> c.height(2));
    }

    static void terms_refusals_nothingInCallsThatAnswerALong() {
        ConicKinds conic = new ConicKinds();
        Checks.due("NOTHING", ConicKinds.NOTHING, -1000000000000000000L);
        Checks.due("put, no such place", conic.put(3, 0, 0), NOTHING);
        Checks.due("put, outside its bounds", conic.put(0, 0, 21), NOTHING);
        Checks.due("determinant", conic.determinant(4), NOTHING);
        Checks.due("middle, there is none", conic.middle(1, 0), NOTHING);
        Checks.due("height", conic.height(2), NOTHING);
        Checks.due("polar", conic.polar(0, 0, 0, 1, 0), NOTHING);
        Checks.due("line, no such line", conic.line(0, 0), NOTHING);
        conic.dimension(3);
        Checks.due("line, not with this dimension", conic.line(0, 0), NOTHING);
    }

    // ---- at most 512 calls

    static void terms_theLastOf512CallsIsAnswered() {
        ConicKinds conic = new ConicKinds();
        for (int call = 1; call < 511; call++) {
            conic.put(call % 3, call % 2, call % 41 - 20);
        }
        conic.dimension(3);
        Checks.due("call 512", conic.kind(), 26);
    }

    static void terms_512CallsOfEachKindGoOnAnswering() {
        for (int d = 2; d <= 3; d++) {
            ConicKinds conic = Refusals.regular(d);
            int put = d == 2 ? 6 : 11;
            long before = conic.line(0, 0) + conic.kind() + conic.middle(1, 0) + conic.touches(1, 2, 3, 4);
            for (int call = put + 4; call <= 508; call += 4) {
                Checks.due("call " + call, conic.line(0, 0) + conic.kind() + conic.middle(1, 0)
                        + conic.touches(1, 2, 3, 4), before);
            }
        }
    }
}
