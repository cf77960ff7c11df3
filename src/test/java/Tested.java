import java.util.ArrayList;
import java.util.List;
import java.util.function.ToIntFunction;

/**
 * An object under test. What an object answers behind its 512th call is free, so its calls are
 * counted here; and since a look at all of it takes more calls than that, every call that changes
 * it or is refused is noted, so that the object can be had again.
 */
final class Tested {
    static final int MOST_CALLS = 512;

    private final DelayedExtents object = new DelayedExtents();
    private final List<ToIntFunction<DelayedExtents>> noted = new ArrayList<>();
    private int calls = 0;
    private Tested spare = null;

    /** A new object with the same calls behind it. */
    Tested again() {
        Tested other = new Tested();
        for (ToIntFunction<DelayedExtents> call : noted) {
            other.repeat(call);
        }
        return other;
    }

    /** One with the same calls behind it that still has calls left, to be asked in its stead. */
    Tested spare() {
        if (spare == null || spare.calls == MOST_CALLS) {
            spare = again();
        }
        return spare;
    }

    int calls() {
        return calls;
    }

    void write(int file, int block, int value) {
        change(x -> {
            x.write(file, block, value);
            return 0;
        });
    }

    int preallocate(int file, int from, int n) {
        return change(x -> x.preallocate(file, from, n));
    }

    int punch(int file, int from, int n) {
        return change(x -> x.punch(file, from, n));
    }

    int truncate(int file, int size) {
        return change(x -> x.truncate(file, size));
    }

    int flush(int file) {
        return change(x -> x.flush(file));
    }

    int crash() {
        return change(x -> x.crash());
    }

    int read(int file, int block) {
        return ask(x -> x.read(file, block));
    }

    int extent(int file, int k, int what) {
        return ask(x -> x.extent(file, k, what));
    }

    int about(int file, int what) {
        return ask(x -> x.about(file, what));
    }

    int free() {
        return ask(x -> x.free());
    }

    int reserved() {
        return ask(x -> x.reserved());
    }

    int owner(int place) {
        return ask(x -> x.owner(place));
    }

    int value(int place) {
        return ask(x -> x.value(place));
    }

    private int change(ToIntFunction<DelayedExtents> call) {
        note(call);
        return made(call);
    }

    private int ask(ToIntFunction<DelayedExtents> call) {
        try {
            return made(call);
        } catch (RuntimeException e) {
            note(call);
            throw e;
        }
    }

    private void note(ToIntFunction<DelayedExtents> call) {
        noted.add(call);
        spare = null;
    }

    private int made(ToIntFunction<DelayedExtents> call) {
        if (calls == MOST_CALLS) {
            throw new AssertionError("a test calls one object more than " + MOST_CALLS + " times");
        }
        calls++;
        return call.applyAsInt(object);
    }

    private void repeat(ToIntFunction<DelayedExtents> call) {
        try {
            change(call);
        } catch (RuntimeException e) {
            // It is repeated for what it left behind; what it throws was looked at the first time.
            return;
        }
    }
}
