import java.util.function.IntSupplier;
import java.util.function.ToIntFunction;

/** What the project's tests share: comparing answers, and telling an object's whole visible state. */
final class Check {
    static final Class<IndexOutOfBoundsException> INDEX = IndexOutOfBoundsException.class;
    static final Class<IllegalArgumentException> ARGUMENT = IllegalArgumentException.class;
    static final Class<IllegalStateException> STATE = IllegalStateException.class;
    static final Class<UnsupportedOperationException> ROOM = UnsupportedOperationException.class;
    static final int MIN = Integer.MIN_VALUE;
    static final int MAX = Integer.MAX_VALUE;
    static final int FILES = 4;
    static final int BLOCKS = 60;
    static final int PLACES = 80;

    private int wrong = 0;
    private String part = "";

    /** What is tested from here on: a sentence of the document, as a rule. */
    void part(String name) {
        part = name;
    }

    void due(String what, long got, long want) {
        due(what, Long.toString(got), Long.toString(want));
    }

    void due(String what, String got, String want) {
        if (!got.equals(want)) {
            wrong++;
            System.out.println(part + ": " + what + " answered " + got + ", due is " + want);
        }
    }

    /** The call must throw exactly this, and all must be as if it had not been made. */
    void refused(String what, Tested x, Class<? extends RuntimeException> want, ToIntFunction<Tested> call) {
        Tested without = x.again();
        due(what, answer(() -> call.applyAsInt(x)), "throws." + want.getSimpleName());
        same("behind a refused " + what, x, without);
    }

    /** Both must look alike now, and when all is flushed, and when the pages are gone. */
    void same(String when, Tested one, Tested other) {
        due("the state " + when, state(one), state(other));
        due("the state " + when + " and four flushes", state(flushed(one)), state(flushed(other)));
        due("the state " + when + " and a crash", state(crashed(one)), state(crashed(other)));
    }

    boolean allRight() {
        return wrong == 0;
    }

    void end() {
        System.out.println(wrong == 0 ? "all answers are as due" : wrong + " answers are not as due");
        if (wrong != 0) {
            System.exit(1);
        }
    }

    static String answer(IntSupplier call) {
        try {
            return Integer.toString(call.getAsInt());
        } catch (RuntimeException e) {
            return "throws." + e.getClass().getSimpleName();
        }
    }

    /** A write as a call with an answer. */
    static ToIntFunction<Tested> write(int file, int block, int value) {
        return x -> {
            x.write(file, block, value);
            return 0;
        };
    }

    private static Tested flushed(Tested x) {
        Tested y = x.again();
        for (int f = 0; f < FILES; f++) {
            y.flush(f);
        }
        return y;
    }

    private static Tested crashed(Tested x) {
        Tested y = x.again();
        y.crash();
        return y;
    }

    /** All that an object can be asked without changing it. */
    static String state(Tested x) {
        StringBuilder s = new StringBuilder();
        s.append("free ").append(x.spare().free()).append(" reserved ").append(x.spare().reserved());
        for (int f = 0; f < FILES; f++) {
            s.append("\nfile ").append(f).append(':');
            for (int what = 0; what < 6; what++) {
                s.append(' ').append(x.spare().about(f, what));
            }
            s.append(" extents ").append(extents(x, f)).append(" reads");
            for (int b = 0; b < BLOCKS; b++) {
                s.append(' ').append(x.spare().read(f, b));
            }
        }
        s.append("\nplaces");
        for (int p = 0; p < PLACES; p++) {
            s.append(' ').append(x.spare().owner(p)).append('=').append(x.spare().value(p));
        }
        return s.toString();
    }

    /** An extent as first block @ place x length, with a u behind it if it is unwritten. */
    static String extent(Tested x, int file, int k) {
        return x.spare().extent(file, k, 0) + "@" + x.spare().extent(file, k, 1) + "x" + x.spare().extent(file, k, 2)
                + (x.spare().extent(file, k, 3) == 1 ? "u" : "");
    }

    static String extents(Tested x, int file) {
        int extents = x.spare().about(file, 2);
        StringBuilder s = new StringBuilder();
        for (int k = 0; k < extents; k++) {
            s.append(k == 0 ? "" : " ").append(extent(x, file, k));
        }
        return s.toString();
    }
}
