import java.util.Arrays;
import java.util.Set;
import java.util.TreeSet;

/**
 * Runs of 512 calls on one object, with changes of DIMENSION, put, keep and refused calls between
 * the others, each answer held against Model. Two objects are used by turns, as none may know of
 * the other.
 */
public final class RunsTest {
    private static final int PAIRS = 300;
    private static final int LEAST = Integer.MIN_VALUE;
    private static final int MOST = Integer.MAX_VALUE;

    // Every call but dimension, put and keep, with the least and the most of each of its numbers.
    private static final Query[] QUERIES = {
        new Query("kind"),
        new Query("signs", 0, 3),
        new Query("determinant", 0, 3),
        new Query("middles"),
        new Query("middle", 1, 3, 0, 1),
        new Query("height", 0, 1),
        new Query("below", -2000, 2000, 1, 100),
        new Query("unlike"),
        new Query("at", -1000, 1000, -1000, 1000, -1000, 1000, 1, 100),
        new Query("polar", -1000, 1000, -1000, 1000, -1000, 1000, 1, 100, 0, 3),
        new Query("touches", -20, 20, -20, 20, -20, 20, -20, 20),
        new Query("section", -10, 10, -10, 10, -10, 10, -10, 10),
        new Query("meets", -20, 20, -20, 20, -20, 20, -20, 20, -20, 20, -20, 20),
        new Query("line", 0, 1, 0, 2),
        new Query("alike"),
    };
    private static final Query DIMENSION = new Query("dimension", 2, 3);
    private static final Query PUT = new Query("put", 0, 3, 0, 3, -20, 20);

    private static final Numbers NUMBERS = new Numbers(20261116L);
    private static final Set<String> SEEN = new TreeSet<>();

    private static final class Query {
        private final String name;
        private final int[] bounds;

        Query(String name, int... bounds) {
            this.name = name;
            this.bounds = bounds;
        }

        int[] draw() {
            int[] numbers = new int[bounds.length / 2];
            for (int i = 0; i < numbers.length; i++) {
                numbers[i] = drawWithin(bounds[2 * i], bounds[2 * i + 1]);
            }
            if (numbers.length > 0 && NUMBERS.oneIn(6)) {
                int i = NUMBERS.next(0, numbers.length - 1);
                numbers[i] = drawOutside(bounds[2 * i], bounds[2 * i + 1]);
            }
            return numbers;
        }
    }

    public static void main(String[] args) {
        for (int pair = 1; pair <= PAIRS; pair++) {
            runPair(pair);
        }
        checkSeen();
        Checks.end();
    }

    private static void runPair(int pair) {
        Twin left = new Twin("pair " + pair + ", left");
        Twin right = new Twin("pair " + pair + ", right");
        while (!left.isDone() || !right.isDone()) {
            Twin twin = left.isDone() || (!right.isDone() && NUMBERS.oneIn(2)) ? right : left;
            step(twin);
        }
    }

    private static void step(Twin twin) {
        switch (NUMBERS.next(0, 24)) {
            case 0:
                ask(twin, DIMENSION);
                break;
            case 1: case 2:
                note("keep", twin.ask("keep"));
                break;
            case 3: case 4: case 5:
                ask(twin, PUT);
                break;
            case 6: case 7:
                twin.fill(drawForm(twin.model.size()));
                break;
            case 8:
                fillWithMultiple(twin);
                break;
            case 9:
                askForTouching(twin);
                break;
            default:
                ask(twin, QUERIES[NUMBERS.next(0, QUERIES.length - 1)]);
        }
    }

    private static void ask(Twin twin, Query query) {
        note(query.name, twin.ask(query.name, query.draw()));
    }

    private static int[] drawForm(int d) {
        return d == 2 && NUMBERS.oneIn(2) ? NUMBERS.lines() : NUMBERS.form(d);
    }

    /** Mostly small, as small numbers meet more often in a point or a line that is asked for. */
    private static int drawWithin(int low, int high) {
        switch (NUMBERS.next(0, 9)) {
            case 0: return low;
            case 1: return high;
            case 2: case 3: return NUMBERS.next(low, high);
            default: return NUMBERS.next(Math.max(low, -2), Math.min(high, 2));
        }
    }

    private static int drawOutside(int low, int high) {
        int[] outside = {low - 1, high + 1, LEAST, MOST, low - 1 - NUMBERS.next(0, 3000)};
        return outside[NUMBERS.next(0, outside.length - 1)];
    }

    /** By a number from -3 to 3, where that stays within the bounds; the kept one itself if not. */
    private static void fillWithMultiple(Twin twin) {
        if (!twin.model.hasKept()) {
            return;
        }
        int d = twin.model.size();
        int factor = NUMBERS.next(-3, 3);
        int[] kept = new int[Numbers.count(d)];
        int k = 0;
        for (int i = 0; i <= d; i++) {
            for (int j = i; j <= d; j++) {
                kept[k++] = (int) twin.model.keptNumber(i, j);
            }
        }
        boolean fits = Arrays.stream(kept).allMatch(v -> Math.abs(factor * v) <= 20);
        twin.fill(Arrays.stream(kept).map(v -> fits ? factor * v : v).toArray());
        if (!twin.isDone()) {
            note("alike", twin.ask("alike"));
        }
    }

    /** The polar of a small point, which touches where the point is one of the set. */
    private static void askForTouching(Twin twin) {
        int[] p = {NUMBERS.next(-2, 2), NUMBERS.next(-2, 2), NUMBERS.next(-2, 2)};
        int[] row = new int[4];
        for (int i = 0; i <= twin.model.size() && !twin.isDone(); i++) {
            long number = twin.ask("polar", p[0], p[1], p[2], 1, i);
            row[i] = (int) Math.max(LEAST, number);
        }
        if (!twin.isDone()) {
            note("touches", twin.ask("touches", row));
        }
    }

    private static void note(String call, long answer) {
        boolean isNumber = answer != Calls.THROWN && answer != Checks.NOTHING;
        boolean tellsALong = Set.of("put", "determinant", "middle", "height", "polar", "line").contains(call);
        SEEN.add(call + " " + (isNumber && tellsALong ? "a number" : answer));
    }

    /** The runs are worth something only if all that a call can answer comes up in them. */
    private static void checkSeen() {
        for (String call : new String[] {"put", "determinant", "middle", "height", "polar", "line"}) {
            wasSeen(call + " a number");
            wasSeen(call + " " + Checks.NOTHING);
        }
        wasSeen("height " + Calls.THROWN);
        sawAll("dimension", -2, 2, 3);
        sawRange("kind", 0, 26);
        sawRange("keep", 0, 26);
        sawAll("signs", -2, 0, 1, 2, 3, 4);
        sawAll("middles", -3, 0, 1, 2, 3);
        sawAll("below", -2, 0, 1, 2, 3);
        sawAll("unlike", 1, 2, 3);
        sawAll("at", -2, 0, 1, 2);
        sawAll("touches", -3, -2, 0, 1);
        sawAll("section", -3, -2);
        sawRange("section", 0, 9);
        sawAll("meets", -2, 0, 1, 2, 3);
        sawAll("alike", -3, 0, 1);
    }

    private static void sawRange(String call, int low, int high) {
        for (int answer = low; answer <= high; answer++) {
            wasSeen(call + " " + answer);
        }
    }

    private static void sawAll(String call, int... answers) {
        for (int answer : answers) {
            wasSeen(call + " " + answer);
        }
    }

    private static void wasSeen(String what) {
        Checks.holds("the runs come to " + what, SEEN.contains(what));
    }
}
