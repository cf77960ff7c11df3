import java.util.TreeSet;

/** Objects that many tests begin with. */
final class Volumes {
    private Volumes() {
    }

    /** Holes, unwritten and written blocks, with and without pages, in several files. */
    static Tested someOfEach() {
        Tested x = new Tested();
        x.write(0, 0, 11);
        x.write(0, 1, 12);
        x.write(0, 3, 13);
        x.flush(0);
        x.preallocate(0, 4, 3);
        x.preallocate(1, 50, 10);
        x.punch(0, 0, 1);
        x.write(0, 1, 21);
        x.write(0, 5, 22);
        x.write(1, 59, 23);
        x.write(2, 0, 24);
        x.write(3, 59, 0);
        return x;
    }

    /** All places taken, nothing free, no tree: file f's block b is at 24 f + b, and all is unwritten. */
    static Tested full() {
        Tested x = new Tested();
        x.preallocate(0, 0, 24);
        x.preallocate(1, 0, 24);
        x.preallocate(2, 0, 24);
        x.preallocate(3, 0, 8);
        return x;
    }

    /** As full, but the last places of files 0, 1 and so on are not taken, as many as are wanted to be free. */
    static Tested fullBut(int free) {
        Tested x = full();
        int[] lastBlocks = {23, 23, 23, 7};
        for (int f = 0; f < free; f++) {
            x.punch(f, lastBlocks[f], 1);
        }
        return x;
    }

    /** As full, but all is written: the value of place p is 1000 + p. */
    static Tested fullAndWritten() {
        Tested x = new Tested();
        for (int f = 0; f < 3; f++) {
            for (int b = 0; b < 24; b++) {
                x.write(f, b, 1000 + 24 * f + b);
            }
            x.flush(f);
        }
        // Eight at once could need a tree block, for which there is no room.
        for (int b = 0; b < 8; b++) {
            x.write(3, b, 1072 + b);
            x.flush(3);
        }
        return x;
    }

    /** Files 2 and 3 have all places but for some rows, given as first place and length in turn. */
    static Tested withRows(int... rows) {
        Tested x = new Tested();
        x.preallocate(3, 0, 60);
        punchRows(x, 3, 0, rows);
        x.preallocate(2, 0, 20);
        punchRows(x, 2, 60, rows);
        TreeSet<Integer> wanted = new TreeSet<>();
        for (int i = 0; i < rows.length; i += 2) {
            for (int p = rows[i]; p < rows[i] + rows[i + 1]; p++) {
                wanted.add(p);
            }
        }
        if (!untaken(x).equals(wanted)) {
            throw new AssertionError("not taken are " + untaken(x) + " where " + wanted + " should be");
        }
        return x;
    }

    static TreeSet<Integer> untaken(Tested x) {
        TreeSet<Integer> untaken = new TreeSet<>();
        for (int p = 0; p < Check.PLACES; p++) {
            if (x.spare().owner(p) == DelayedExtents.NONE) {
                untaken.add(p);
            }
        }
        return untaken;
    }

    private static void punchRows(Tested x, int file, int firstPlace, int[] rows) {
        for (int i = 0; i < rows.length; i += 2) {
            if (rows[i] >= firstPlace && rows[i] < firstPlace + 60) {
                x.punch(file, rows[i] - firstPlace, rows[i + 1]);
            }
        }
    }
}
