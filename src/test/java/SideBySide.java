import java.util.TreeMap;

/**
 * The class and the model side by side: every call is made on both, and the answers must agree.
 * What was called, in what state and with what kind of answer is counted, so that a test can tell
 * whether its runs met enough.
 */
final class SideBySide {
    private static final int FEW_LEFT = 2;
    private static final int MOST_PAGES = 24;
    private static final int MANY_EXTENTS = 20;

    private final Check check;
    private final TreeMap<String, Integer> met;
    private final Tested x = new Tested();
    private final Model m = new Model();
    private boolean nearlyFull = false;
    private boolean allPages = false;
    private boolean manyExtents = false;

    SideBySide(Check check, TreeMap<String, Integer> met) {
        this.check = check;
        this.met = met;
    }

    int calls() {
        return x.calls();
    }

    boolean hasCallsLeft() {
        return x.calls() < Tested.MOST_CALLS;
    }

    void lookAtAll() {
        check.due("the state at call " + x.calls(), Check.state(x), m.state());
    }

    void write(int file, int block, int value) {
        String got = Check.answer(() -> Check.write(file, block, value).applyAsInt(x));
        agree("write", got, m.write(file, block, value), file, block, value);
    }

    void read(int file, int block) {
        agree("read", Check.answer(() -> x.read(file, block)), m.read(file, block), file, block);
    }

    void preallocate(int file, int from, int n) {
        String got = Check.answer(() -> x.preallocate(file, from, n));
        agree("preallocate", got, m.preallocate(file, from, n), file, from, n);
    }

    void punch(int file, int from, int n) {
        agree("punch", Check.answer(() -> x.punch(file, from, n)), m.punch(file, from, n), file, from, n);
    }

    void truncate(int file, int size) {
        agree("truncate", Check.answer(() -> x.truncate(file, size)), m.truncate(file, size), file, size);
    }

    void flush(int file) {
        agree("flush", Check.answer(() -> x.flush(file)), m.flush(file), file);
    }

    void crash() {
        agree("crash", Check.answer(() -> x.crash()), m.crash());
    }

    void extent(int file, int k, int what) {
        agree("extent", Check.answer(() -> x.extent(file, k, what)), m.extent(file, k, what), file, k, what);
    }

    void about(int file, int what) {
        agree("about", Check.answer(() -> x.about(file, what)), m.about(file, what), file, what);
    }

    void free() {
        agree("free", Check.answer(() -> x.free()), "" + m.free());
    }

    void reserved() {
        agree("reserved", Check.answer(() -> x.reserved()), "" + m.reserved());
    }

    void owner(int place) {
        agree("owner", Check.answer(() -> x.owner(place)), m.owner(place), place);
    }

    void value(int place) {
        agree("value", Check.answer(() -> x.value(place)), m.value(place), place);
    }

    private void agree(String call, String got, String want, int... arguments) {
        StringBuilder told = new StringBuilder("call " + x.calls() + ", " + call + "(");
        for (int i = 0; i < arguments.length; i++) {
            told.append(i == 0 ? "" : ", ").append(arguments[i]);
        }
        check.due(told.append(")").toString(), got, want);
        check.due("whether free is less than reserved", m.free() < m.reserved() ? 1 : 0, 0);
        count(call + (want.startsWith("throws.") ? " " + want : " answers"));
        countByState(call);
        noteState();
    }

    /** By the state that the call found, not the one that it left. */
    private void countByState(String call) {
        if (nearlyFull) {
            count(call + " in a nearly full volume");
        }
        if (allPages) {
            count(call + " with 24 pages");
        }
        if (manyExtents) {
            count(call + " with many extents");
        }
    }

    private void noteState() {
        nearlyFull = m.free() - m.reserved() <= FEW_LEFT;
        allPages = m.pagesInAll() == MOST_PAGES;
        manyExtents = m.mostExtents() >= MANY_EXTENTS;
    }

    private void count(String what) {
        met.merge(what, 1, Integer::sum);
    }
}
