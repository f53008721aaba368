/** Runs of calls on one object, written by hand: each row a call and the answer that is due. */
public final class WrittenRunsTest {
    // 64 calls from DIMENSION 2 to DIMENSION 2, so that eight of them are the 512 of an object.
    private static final String[] ROUND = {
        "dimension(2) = 2",
        "kind() = 8",
        "alike() = -3",
        // x x + 4 y y - 16
        "put(1, 1, 1) = 0",
        "put(2, 2, 4) = 0",
        "put(0, 0, -16) = 0",
        "put(1, 1, 21) = NOTHING",
        "kind() = 2",
        "keep() = 2",
        "at(4, 0, 5000, 1) = 1",
        "at(0, 2, 0, 0) = -2",
        "at(0, 5, 0, 2) = 2",
        "dimension(4) = -2",
        "touches(-2, 0, 1, 0) = 1",
        "touches(-2, 0, 0, 1) = -2",
        "meets(0, 3, 0, 1, 0, 9) = 0",
        "meets(0, 3, 99, 0, 1, 99) = 2",
        "polar(4, 0, 0, 1, 0) = 4",
        "polar(4, 0, 0, 1, 1) = -1",
        "polar(4, 0, 0, 1, 3) = NOTHING",
        "height(0) = -16",
        "height(1) = 1",
        "height(2) = NOTHING",
        // x x + 4 x + 4 y y - 16
        "put(0, 1, 2) = 0",
        "alike() = 0",
        "middle(1, 0) = -2",
        "middle(2, 1) = 1",
        "height(0) = -20",
        // x x + 4 x - 16, which is 0 at -2 and the root of 20 more or less
        "put(2, 2, 0) = 4",
        "kind() = 6",
        "line(0, 0) = NOTHING",
        "height(0) = throws.ArithmeticException",
        "middles() = 1",
        "middle(1, 0) = NOTHING",
        // (x - 2) (x + 6)
        "put(0, 0, -12) = -16",
        "line(0, 0) = 2",
        "line(0, 1) = -1",
        "line(1, 0) = 6",
        "line(2, 0) = NOTHING",
        "section(0, 0, 1, 0) = -3",
        "dimension(3) = 2",
        "alike() = -3",
        "kind() = 26",
        // x x + y y - z z
        "put(3, 3, -1) = 0",
        "put(1, 1, 1) = 0",
        "put(2, 2, 1) = 0",
        "section(0, 0, 1, 2) = 2",
        "section(0, 0, 11, 2) = -2",
        "section(1, 0, 0, 0) = 5",
        "line(0, 0) = NOTHING",
        "signs(0) = 2",
        "signs(3) = 1",
        "touches(0, 1, 0, 1) = -3",
        // x x + y y - z z - 4
        "put(0, 0, -4) = 0",
        "keep() = 13",
        "touches(-2, 1, 0, 0) = 1",
        "meets(2, 0, 0, 0, 1, 1) = 3",
        "below(1, 1) = 1",
        "unlike() = 2",
        // x x + y y - z z + 4
        "put(0, 0, 4) = -4",
        "kind() = 14",
        "alike() = 0",
        "dimension(5) = -2",
        "dimension(2) = 3",
    };

    private static final String[] THROUGH_SPACE = {
        "dimension(3) = 2",
        // x x + 2 y y - 4 z
        "put(1, 1, 1) = 0",
        "put(2, 2, 2) = 0",
        "put(3, 0, -2) = 0",
        "kind() = 15",
        "middles() = -3",
        "middle(1, 0) = NOTHING",
        "determinant(0) = 0",
        "determinant(1) = -8",
        "determinant(2) = 3",
        "determinant(3) = 2",
        "height(1) = throws.ArithmeticException",
        "height(-1) = NOTHING",
        "keep() = 15",
        // x x + 2 y y
        "put(0, 3, 0) = -2",
        "kind() = 21",
        "middles() = 1",
        "alike() = 0",
        // x x + 2 y y - 2
        "put(0, 0, -2) = 0",
        "kind() = 18",
        "polar(0, 0, 7, 1, 0) = 1",
        "polar(0, 0, 7, 1, 3) = 0",
        // x x - 2
        "put(2, 2, 0) = 2",
        "kind() = 23",
        "section(0, 1, 0, 0) = 6",
        "section(1, 0, 0, 1) = 0",
        "section(1, 0, 0, 0) = 0",
        // x x - 1
        "put(0, 0, -1) = -2",
        "section(1, 0, 0, 1) = 8",
        "meets(1, 0, 0, 0, 1, 1) = 3",
        "meets(0, 0, 0, 0, 1, 1) = 0",
        "meets(0, 0, 0, 1, 0, 0) = 2",
        // x x
        "put(0, 0, 0) = -1",
        "kind() = 25",
        "keep() = 25",
        "alike() = 1",
        "put(1, 1, -20) = 1",
        "alike() = 1",
        "put(1, 1, 0) = -20",
        "alike() = 0",
        // 6 y
        "put(0, 2, 3) = 0",
        "kind() = 24",
        "middles() = -3",
        // 3 y (y + 2)
        "put(2, 2, 3) = 0",
        "kind() = 23",
        "middles() = 2",
        // 3 (y + 1) (y + 1)
        "put(0, 0, 3) = 0",
        "kind() = 25",
        "dimension(1) = -2",
        "alike() = 0",
        "put(2, 2, 3) = 3",
        "dimension(3) = 3",
        "put(2, 2, 5) = 0",
        "alike() = -3",
    };

    // What a refused call could leave behind: a bound overstepped late, in each call that takes numbers.
    private static final String[] REFUSED_BETWEEN = {
        "put(1, 2, 1) = 0",
        "put(0, 0, -4) = 0",
        "keep() = 3",
        "put(2, 1, -21) = NOTHING",
        "put(2, 3, 5) = NOTHING",
        "put(3, 2, 5) = NOTHING",
        "alike() = 1",
        "dimension(0) = -2",
        "dimension(-2147483648) = -2",
        "dimension(2147483647) = -2",
        "alike() = 1",
        "meets(0, 0, 0, 1, 21, 0) = -2",
        "meets(0, 0, 0, 1, 1, 0) = 2",
        "meets(0, 0, 0, 0, 0, 1) = -2",
        "meets(0, 0, 0, 1, 0, 0) = 0",
        "touches(1, 1, -21, 0) = -2",
        "touches(-4, 1, 2, 0) = 1",
        "touches(5, 0, 0, 1) = -2",
        "touches(-4, 2, 1, 0) = 1",
        "polar(1, 2, 0, 1, -1) = NOTHING",
        "polar(1, 2, 0, 1, 2) = -1",
        "polar(1, 1001, 0, 1, 2) = NOTHING",
        "polar(1, 2, 0, 1, 1) = -2",
        "at(1, -1001, 0, 1) = -2",
        "at(1, 2, 0, 1) = 1",
        "below(2001, 1) = -2",
        "below(1, 1) = 1",
        "below(1, 101) = -2",
        "below(101, 100) = 2",
        "signs(4) = -2",
        "signs(1) = 1",
        "determinant(-1) = NOTHING",
        "determinant(1) = 4",
        "middle(0, 0) = NOTHING",
        "middle(2, 0) = 0",
        "middle(2, 2) = NOTHING",
        "middle(2, 1) = 1",
        "height(2) = NOTHING",
        "height(0) = -4",
        "section(1, 1, 1, 1) = -3",
        "line(0, 0) = NOTHING",
        "put(0, 0, 0) = -4",
        "line(0, 3) = NOTHING",
        "line(0, 2) = 1",
        "line(2, 2) = NOTHING",
        "line(1, 2) = 0",
        "line(1, 1) = 1",
        "put(0, 0, 4) = 0",
        "alike() = 0",
        "put(2, 1, -1) = 1",
        "alike() = 1",
        "put(2, 2, 0) = 0",
        "put(1, 1, 0) = 0",
        "put(0, 1, 0) = 0",
        "put(0, 2, 0) = 0",
        "put(0, 0, 4) = 4",
        "dimension(2) = 2",
        "alike() = -3",
    };

    public static void main(String[] args) {
        ConicKinds conic = new ConicKinds();
        for (int round = 1; round <= 8; round++) {
            play(conic, "round " + round, ROUND);
        }
        Checks.due("calls of eight rounds", 8 * ROUND.length, 512);
        play(new ConicKinds(), "through space", THROUGH_SPACE);
        play(new ConicKinds(), "refused between", REFUSED_BETWEEN);
        Checks.end();
    }

    private static void play(ConicKinds conic, String name, String[] rows) {
        for (int i = 0; i < rows.length; i++) {
            String[] sides = rows[i].split(" = ");
            Checks.due(name + ", row " + (i + 1) + ": " + sides[0],
                    Calls.askText(conic, sides[0]), Calls.answerOf(sides[1]));
        }
    }
}
