import java.util.TreeMap;

/** Long runs of calls on the class and on the model; every answer and every state must agree. */
public final class ModelRunsTest {
    private static final int RUNS = 500;
    /** A look at the whole state needs some of the calls that an object has. */
    private static final int CALLS = Tested.MOST_CALLS - 72;
    private static final int CALLS_BETWEEN_STATES = 40;
    /** How often to write, preallocate, flush, punch, crash or truncate, and ask. */
    private static final int[][] WEIGHTS = {
        {16, 6, 4, 2, 1, 2},
        {16, 6, 4, 6, 2, 2},
        {24, 1, 1, 2, 1, 2},
        {12, 8, 2, 8, 1, 2},
        {16, 3, 6, 8, 4, 2},
        {16, 6, 4, 2, 1, 30},
    };
    private static final int[] ODD = {-1, Integer.MIN_VALUE, Integer.MAX_VALUE, 4, 60, 61, 80};
    private static final int[] LENGTHS = {1, 2, 3, 5, 8, 13, 30, 60};

    private final Check check = new Check();
    /** How often each call had each kind of answer: a run that never throws tests too little. */
    private final TreeMap<String, Integer> seen = new TreeMap<>();
    private long seed;
    private Tested x;
    private Model m;

    public static void main(String[] args) {
        new ModelRunsTest().all();
    }

    private void all() {
        // Behind the first wrong run the others would only tell the same fault again.
        for (int run = 1; run <= RUNS && check.allRight(); run++) {
            check.part("run " + run);
            oneRun(run);
        }
        if (check.allRight()) {
            check.part("what the runs met");
            checkKinds();
        }
        check.end();
    }

    private void checkKinds() {
        String[] kinds = {
            "write ok", "write throws.IndexOutOfBoundsException", "write throws.IllegalStateException",
            "write throws.UnsupportedOperationException", "preallocate ok",
            "preallocate throws.IndexOutOfBoundsException", "preallocate throws.IllegalArgumentException",
            "preallocate throws.UnsupportedOperationException", "punch ok", "punch throws.IndexOutOfBoundsException",
            "punch throws.IllegalArgumentException", "truncate ok", "truncate throws.IndexOutOfBoundsException",
            "truncate throws.IllegalArgumentException", "flush ok", "flush throws.IndexOutOfBoundsException",
            "crash ok", "extent ok", "extent throws.IndexOutOfBoundsException",
            "extent throws.IllegalArgumentException", "about ok", "about throws.IndexOutOfBoundsException",
            "about throws.IllegalArgumentException", "read ok", "read throws.IndexOutOfBoundsException",
            "owner ok", "owner throws.IndexOutOfBoundsException", "value ok", "value throws.IndexOutOfBoundsException",
        };
        for (String kind : kinds) {
            check.due(kind + " met often", seen.getOrDefault(kind, 0) >= 50 ? 1 : 0, 1);
        }
    }

    private void oneRun(int run) {
        seed = run * 7919L;
        x = new Tested();
        m = new Model();
        // Some runs stay in few blocks; some fill the volume, some the pages, some give back much.
        int reach = run % 3 == 0 ? 20 : 60;
        int[] weights = WEIGHTS[run % WEIGHTS.length];
        int nextState = CALLS_BETWEEN_STATES;
        while (x.calls() < CALLS) {
            oneCall(reach, weights);
            check.due("whether free is less than reserved", m.free() < m.reserved() ? 1 : 0, 0);
            if (x.calls() >= nextState) {
                check.due("the state at call " + x.calls(), Check.state(x), m.state());
                nextState += CALLS_BETWEEN_STATES;
            }
        }
        check.due("the state at the end", Check.state(x), m.state());
    }

    private void oneCall(int reach, int[] weights) {
        int file = oddly(below(4));
        int block = oddly(below(reach));
        int n = oddly(LENGTHS[below(LENGTHS.length)]);
        switch (drawn(weights)) {
            case 0:
                int value = 1 + below(1000);
                agree("write", file, block, value, Check.answer(() -> Check.write(file, block, value).applyAsInt(x)), m.write(file, block, value));
                break;
            case 1:
                agree("preallocate", file, block, n, Check.answer(() -> x.preallocate(file, block, n)), m.preallocate(file, block, n));
                break;
            case 2:
                agree("flush", file, 0, 0, Check.answer(() -> x.flush(file)), m.flush(file));
                break;
            case 3:
                int few = n > 3 && n < 60 ? 2 : n;
                agree("punch", file, block, few, Check.answer(() -> x.punch(file, block, few)), m.punch(file, block, few));
                break;
            case 4:
                crashOrTruncate(file, block);
                break;
            default:
                ask(file, block);
                break;
        }
    }

    private int drawn(int[] weights) {
        int sum = 0;
        for (int weight : weights) {
            sum += weight;
        }
        int left = below(sum);
        int kind = 0;
        while (left >= weights[kind]) {
            left -= weights[kind];
            kind++;
        }
        return kind;
    }

    private void crashOrTruncate(int file, int block) {
        if (below(4) == 0) {
            agree("crash", 0, 0, 0, Check.answer(() -> x.crash()), m.crash());
        } else {
            int size = oddly(below(4) == 0 ? 60 : block);
            agree("truncate", file, size, 0, Check.answer(() -> x.truncate(file, size)), m.truncate(file, size));
        }
    }

    private void ask(int file, int block) {
        int place = oddly(below(80));
        int k = oddly(below(12));
        int what = oddly(below(6));
        agree("read", file, block, 0, Check.answer(() -> x.read(file, block)), m.read(file, block));
        agree("extent", file, k, what, Check.answer(() -> x.extent(file, k, what)), m.extent(file, k, what));
        agree("about", file, what, 0, Check.answer(() -> x.about(file, what)), m.about(file, what));
        agree("owner", place, 0, 0, Check.answer(() -> x.owner(place)), m.owner(place));
        agree("value", place, 0, 0, Check.answer(() -> x.value(place)), m.value(place));
        agree("free", 0, 0, 0, "" + x.free(), "" + m.free());
        agree("reserved", 0, 0, 0, "" + x.reserved(), "" + m.reserved());
    }

    private void agree(String call, int a, int b, int c, String got, String want) {
        check.due(call + " with " + a + ", " + b + ", " + c, got, want);
        seen.merge(call + " " + (want.startsWith("throws.") ? want : "ok"), 1, Integer::sum);
    }

    private int oddly(int usual) {
        return below(50) == 0 ? ODD[below(ODD.length)] : usual;
    }

    /** Numbers that look drawn but are the same each time. */
    private int below(int bound) {
        seed = seed * 6364136223846793005L + 1442695040888963407L;
        return (int) ((seed >>> 33) % bound);
    }
}
