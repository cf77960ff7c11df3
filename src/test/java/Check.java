import java.util.function.IntSupplier;

/** What the project's tests share: comparing answers, and telling an object's whole visible state. */
final class Check {
    static final int FILES = 4;
    static final int BLOCKS = 60;
    static final int PLACES = 80;

    private int wrong = 0;
    private String part = "";

    void part(String name) {
        part = name;
    }

    void due(String what, long got, long want) {
        due(what, Long.toString(got), Long.toString(want));
    }

    void due(String what, String got, String want) {
        if (!got.equals(want)) {
            wrong++;
            System.out.println(part + ": " + what + " answered " + got + ", due is " + want);
        }
    }

    /** The call must throw exactly this, and the object must look as before. */
    void refused(String what, DelayedExtents x, Class<? extends RuntimeException> want, IntSupplier call) {
        String before = state(x);
        due(what, answer(call), "throws." + want.getSimpleName());
        due("the state behind a refused " + what, state(x), before);
    }

    boolean allRight() {
        return wrong == 0;
    }

    void end() {
        System.out.println(wrong == 0 ? "all answers are as due" : wrong + " answers are not as due");
        if (wrong != 0) {
            System.exit(1);
        }
    }

    static String answer(IntSupplier call) {
        try {
            return Integer.toString(call.getAsInt());
        } catch (RuntimeException e) {
            return "throws." + e.getClass().getSimpleName();
        }
    }

    /** A write as a call with an answer. */
    static IntSupplier write(DelayedExtents x, int file, int block, int value) {
        return () -> {
            x.write(file, block, value);
            return 0;
        };
    }

    /** All that an object can be asked without changing it. */
    static String state(DelayedExtents x) {
        StringBuilder s = new StringBuilder();
        s.append("free ").append(x.free()).append(" reserved ").append(x.reserved());
        for (int f = 0; f < FILES; f++) {
            s.append("\nfile ").append(f).append(':');
            for (int what = 0; what < 6; what++) {
                s.append(' ').append(x.about(f, what));
            }
            s.append(" extents");
            for (int k = 0; k < x.about(f, 2); k++) {
                s.append(' ').append(extent(x, f, k));
            }
            s.append(" reads");
            for (int b = 0; b < BLOCKS; b++) {
                s.append(' ').append(x.read(f, b));
            }
        }
        s.append("\nplaces");
        for (int p = 0; p < PLACES; p++) {
            s.append(' ').append(x.owner(p)).append('=').append(x.value(p));
        }
        return s.toString();
    }

    /** An extent as first block @ place x length, with a u behind it if it is unwritten. */
    static String extent(DelayedExtents x, int file, int k) {
        return x.extent(file, k, 0) + "@" + x.extent(file, k, 1) + "x" + x.extent(file, k, 2)
                + (x.extent(file, k, 3) == 1 ? "u" : "");
    }

    static String extents(DelayedExtents x, int file) {
        StringBuilder s = new StringBuilder();
        for (int k = 0; k < x.about(file, 2); k++) {
            s.append(k == 0 ? "" : " ").append(extent(x, file, k));
        }
        return s.toString();
    }
}
