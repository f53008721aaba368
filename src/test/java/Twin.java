import java.util.Arrays;

/** An object and the model of it, asked alike: an answer that differs is told with its run and call. */
final class Twin {
    /** What later calls answer is free. */
    static final int MOST_CALLS = 512;

    final Model model = new Model();
    private final ConicKinds conic = new ConicKinds();
    private final String name;
    private int calls = 0;

    Twin(String name) {
        this.name = name;
    }

    /** Of d = 2 with six numbers, of d = 3 with ten, as for Checks.make. */
    static Twin with(int... m) {
        Twin twin = new Twin(Arrays.toString(m));
        twin.ask("dimension", m.length == 6 ? 2 : 3);
        twin.fill(m);
        return twin;
    }

    boolean isDone() {
        return calls == MOST_CALLS;
    }

    /** Puts all numbers of a form, as many as there are calls left for; each at either of its places. */
    void fill(int... m) {
        int k = 0;
        for (int i = 0; i <= model.size(); i++) {
            for (int j = i; j <= model.size() && !isDone(); j++) {
                boolean turned = (calls & 1) == 0;
                ask("put", turned ? j : i, turned ? i : j, m[k++]);
            }
        }
    }

    /** The answer that is due. */
    long ask(String call, int... numbers) {
        if (isDone()) {
            throw new IllegalStateException("more calls than an object is used for");
        }
        calls++;
        long want = Calls.ask(model, call, numbers);
        long got = Calls.ask(conic, call, numbers);
        String what = got == want ? "" : name + ", call " + calls + ": " + Calls.tell(call, numbers);
        Checks.due(what, got, want);
        return want;
    }
}
