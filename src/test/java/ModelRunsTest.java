import java.util.TreeMap;

/** Runs of 512 calls on the class and on the model; every answer and every state must agree. */
public final class ModelRunsTest {
    private static final int RUNS = 400;
    private static final int CALLS_BETWEEN_LOOKS = 40;
    private static final int OFTEN = 50;

    /** How a run begins, and how often it then makes which calls. */
    private enum Kind {
        MIXED(50, 20, 12, 6, 3, 1, 20),
        GIVING_BACK(40, 12, 14, 20, 6, 2, 20),
        ASKING(30, 12, 8, 6, 2, 1, 60),
        NEARLY_FULL(40, 25, 8, 8, 1, 1, 25),
        ALL_PAGES(60, 6, 2, 6, 1, 1, 25),
        MANY_EXTENTS(30, 12, 12, 6, 1, 1, 25);

        private final int[] weights;

        /** For write, preallocate, flush, punch, truncate, crash and the questions. */
        Kind(int... weights) {
            this.weights = weights;
        }
    }

    private static final String[] CALLS = {
        "write", "read", "preallocate", "punch", "truncate", "flush", "crash", "extent", "about", "free", "reserved",
        "owner", "value",
    };
    private static final String[] STATES = {"in a nearly full volume", "with 24 pages", "with many extents"};
    private static final String[] REFUSALS = {
        "write throws.IndexOutOfBoundsException", "write throws.IllegalStateException",
        "write throws.UnsupportedOperationException", "read throws.IndexOutOfBoundsException",
        "preallocate throws.IndexOutOfBoundsException", "preallocate throws.IllegalArgumentException",
        "preallocate throws.UnsupportedOperationException", "punch throws.IndexOutOfBoundsException",
        "punch throws.IllegalArgumentException", "truncate throws.IndexOutOfBoundsException",
        "truncate throws.IllegalArgumentException", "flush throws.IndexOutOfBoundsException",
        "extent throws.IndexOutOfBoundsException", "extent throws.IllegalArgumentException",
        "about throws.IndexOutOfBoundsException", "about throws.IllegalArgumentException",
        "owner throws.IndexOutOfBoundsException", "value throws.IndexOutOfBoundsException",
    };
    private static final int[] ODD = {-1, Integer.MIN_VALUE, Integer.MAX_VALUE, 4, 60, 61, 80};
    private static final int[] LENGTHS = {1, 2, 3, 5, 8, 13, 30, 60};

    private final Check check = new Check();
    private final TreeMap<String, Integer> met = new TreeMap<>();
    private long seed;
    private SideBySide both;

    public static void main(String[] args) {
        new ModelRunsTest().all();
    }

    private void all() {
        // Behind the first wrong run the others would only tell the same fault again.
        for (int run = 1; run <= RUNS && check.allRight(); run++) {
            check.part("run " + run);
            oneRun(run);
        }
        if (check.allRight()) {
            check.part("what the runs met");
            checkWhatWasMet();
        }
        check.end();
    }

    /** Runs that seldom throw, or seldom come near a limit, would test too little. */
    private void checkWhatWasMet() {
        for (String refusal : REFUSALS) {
            metOften(refusal);
        }
        for (String call : CALLS) {
            metOften(call + " answers");
            for (String state : STATES) {
                metOften(call + " " + state);
            }
        }
    }

    private void metOften(String what) {
        check.due(what + ", met often", met.getOrDefault(what, 0) >= OFTEN ? 1 : 0, 1);
    }

    private void oneRun(int run) {
        seed = run * 7919L;
        both = new SideBySide(check, met);
        Kind kind = Kind.values()[run % Kind.values().length];
        prepare(kind);
        int reach = below(3) == 0 ? 20 : 60;
        while (both.hasCallsLeft()) {
            oneCall(reach, kind.weights);
            if (both.calls() % CALLS_BETWEEN_LOOKS == 0) {
                both.lookAtAll();
            }
        }
        both.lookAtAll();
    }

    private void prepare(Kind kind) {
        switch (kind) {
            case NEARLY_FULL:
                fillVolume();
                break;
            case ALL_PAGES:
                fillPages();
                break;
            case MANY_EXTENTS:
                makeExtents(below(4));
                break;
            default:
                break;
        }
    }

    private void fillVolume() {
        int first = below(4);
        both.preallocate(first, below(10), 20 + below(31));
        for (int f = 0; f < 4; f++) {
            both.preallocate(f, below(40), 8 + below(12));
        }
        for (int length = 8; length >= 1; length /= 2) {
            both.preallocate((first + 1) % 4, 60 - length, length);
            both.preallocate((first + 2) % 4, below(20), length);
        }
    }

    private void fillPages() {
        for (int i = 0; i < 24; i++) {
            both.write(below(4), below(60), 1 + below(1000));
        }
    }

    /** Every second block of an unwritten row is written: no two neighbours can be one extent. */
    private void makeExtents(int file) {
        int blocks = 30 + below(21);
        both.preallocate(file, 0, blocks);
        for (int b = 0; b < blocks; b += 2) {
            both.write(file, b, 1 + below(1000));
            if (b % 12 == 10) {
                both.flush(file);
            }
        }
        both.flush(file);
    }

    private void oneCall(int reach, int[] weights) {
        int file = oddly(below(4));
        int block = oddly(below(reach));
        int n = oddly(LENGTHS[below(LENGTHS.length)]);
        switch (drawn(weights)) {
            case 0:
                both.write(file, block, 1 + below(1000));
                break;
            case 1:
                both.preallocate(file, block, n);
                break;
            case 2:
                both.flush(file);
                break;
            case 3:
                // A run that punches long rows would soon be empty.
                both.punch(file, block, n > 3 && n < 60 ? 2 : n);
                break;
            case 4:
                both.truncate(file, below(4) == 0 ? oddly(60) : block);
                break;
            case 5:
                both.crash();
                break;
            default:
                ask(file, block);
                break;
        }
    }

    private int drawn(int[] weights) {
        int sum = 0;
        for (int weight : weights) {
            sum += weight;
        }
        int left = below(sum);
        int drawn = 0;
        while (left >= weights[drawn]) {
            left -= weights[drawn];
            drawn++;
        }
        return drawn;
    }

    private void ask(int file, int block) {
        int place = oddly(below(80));
        switch (below(7)) {
            case 0:
                both.read(file, block);
                break;
            case 1:
                both.extent(file, oddly(below(below(2) == 0 ? 8 : 60)), oddly(below(5)));
                break;
            case 2:
                both.about(file, oddly(below(7)));
                break;
            case 3:
                both.owner(place);
                break;
            case 4:
                both.value(place);
                break;
            case 5:
                both.free();
                break;
            default:
                both.reserved();
                break;
        }
    }

    private int oddly(int usual) {
        return below(50) == 0 ? ODD[below(ODD.length)] : usual;
    }

    /** Numbers that look drawn but are the same each time. */
    private int below(int bound) {
        seed = seed * 6364136223846793005L + 1442695040888963407L;
        return (int) ((seed >>> 33) % bound);
    }
}
