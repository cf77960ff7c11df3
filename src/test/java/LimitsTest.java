import java.util.TreeSet;

/** "Terms", first part: the limits of places, files, blocks, sizes and pages, and what a block reads as. */
public final class LimitsTest {
    private static final int MIN = Check.MIN;
    private static final int MAX = Check.MAX;
    private static final int[] NO_PLACES = {MIN, MIN + 1, -80, -2, -1, 80, 81, MAX - 1, MAX};
    private static final int[] NO_FILES = {MIN, MIN + 1, -4, -2, -1, 4, 5, 60, MAX - 1, MAX};
    private static final int[] NO_BLOCKS = {MIN, MIN + 1, -60, -2, -1, 60, 61, 120, MAX - 1, MAX};

    private final Check check = new Check();

    public static void main(String[] args) {
        LimitsTest t = new LimitsTest();
        t.places();
        t.valuesOfPlaces();
        t.files();
        t.fileThatIsNone();
        t.blocks();
        t.blockThatIsNone();
        t.sizeAtFirst();
        t.sizeAtMost();
        t.holeAtFirst();
        t.mappedToOnePlace();
        t.writtenOrUnwritten();
        t.pageBesides();
        t.pagesOfOneFile();
        t.pagesInAll();
        t.pagesThatGoMakeRoom();
        t.readsAsThePage();
        t.readsAsThePlace();
        t.readsAsZero();
        t.lastOf512Calls();
        t.askingChangesNothing();
        t.check.end();
    }

    private void places() {
        check.part("THE VOLUME has PLACES 0 .. 79");
        Tested x = Volumes.fullAndWritten();
        check.due("owner(0)", x.owner(0), 0);
        check.due("owner(79)", x.owner(79), 187);
        check.due("value(0)", x.value(0), 1000);
        check.due("value(79)", x.value(79), 1079);
        for (int place : NO_PLACES) {
            check.refused("owner(" + place + ")", x, Check.INDEX, y -> y.owner(place));
            check.refused("value(" + place + ")", x, Check.INDEX, y -> y.value(place));
        }
    }

    private void valuesOfPlaces() {
        check.part("each with a value (an int)");
        Tested x = Volumes.fullAndWritten();
        for (int p = 0; p < 80; p++) {
            check.due("value(" + p + ")", x.value(p), 1000 + p);
        }
        int[] values = {MIN, MIN + 1, -1, 0, 1, MAX - 1, MAX};
        for (int i = 0; i < values.length; i++) {
            x.write(0, i, values[i]);
            x.write(3, 7 - i, values[i]);
        }
        x.flush(0);
        x.flush(3);
        for (int i = 0; i < values.length; i++) {
            check.due("value(" + i + ")", x.value(i), values[i]);
            check.due("value(" + (79 - i) + ")", x.value(79 - i), values[i]);
        }
        check.due("the value of the place behind them", x.value(7), 1007);
    }

    private void files() {
        check.part("FILES are 0 .. 3");
        for (int file = 0; file <= 3; file++) {
            Tested x = new Tested();
            x.write(file, 7, 70);
            check.due("read of " + file, x.read(file, 7), 70);
            check.due("flush of " + file, x.flush(file), 1);
            check.due("owner(0) with " + file, x.owner(0), 60 * file + 7);
            check.due("preallocate of " + file, x.preallocate(file, 8, 2), 2);
            check.due("extent of " + file, x.extent(file, 1, 0), 8);
            check.due("about of " + file, x.about(file, 1), 3);
            check.due("punch of " + file, x.punch(file, 9, 1), 1);
            check.due("truncate of " + file, x.truncate(file, 0), 2);
        }
    }

    private void fileThatIsNone() {
        check.part("IndexOutOfBoundsException when there is no such file");
        Tested x = Volumes.someOfEach();
        for (int file : NO_FILES) {
            check.refused("write to " + file, x, Check.INDEX, Check.write(file, 0, 1));
            check.refused("read of " + file, x, Check.INDEX, y -> y.read(file, 0));
            check.refused("preallocate of " + file, x, Check.INDEX, y -> y.preallocate(file, 0, 1));
            check.refused("punch of " + file, x, Check.INDEX, y -> y.punch(file, 0, 60));
            check.refused("truncate of " + file, x, Check.INDEX, y -> y.truncate(file, 0));
            check.refused("flush of " + file, x, Check.INDEX, y -> y.flush(file));
            check.refused("extent of " + file, x, Check.INDEX, y -> y.extent(file, 0, 0));
            check.refused("about of " + file, x, Check.INDEX, y -> y.about(file, 0));
        }
    }

    private void blocks() {
        check.part("each has BLOCKS 0 .. 59");
        for (int file = 0; file <= 3; file++) {
            for (int block : new int[] {0, 1, 58, 59}) {
                String which = "block " + block + " of file " + file;
                Tested x = new Tested();
                x.write(file, block, 5);
                check.due("read of " + which, x.read(file, block), 5);
                check.due("preallocate of " + which, x.preallocate(file, block, 1), 1);
                check.due("owner(0) with " + which, x.owner(0), 60 * file + block);
                check.due("mapped with " + which, x.about(file, 1), 1);
                check.due("punch of " + which, x.punch(file, block, 1), 1);
                check.due("owner(0) without " + which, x.owner(0), DelayedExtents.NONE);
            }
        }
    }

    private void blockThatIsNone() {
        check.part("IndexOutOfBoundsException when there is no such block");
        Tested x = Volumes.someOfEach();
        for (int block : NO_BLOCKS) {
            for (int file : new int[] {0, 3}) {
                String which = "block " + block + " of file " + file;
                check.refused("write to " + which, x, Check.INDEX, Check.write(file, block, 1));
                check.refused("read of " + which, x, Check.INDEX, y -> y.read(file, block));
                check.refused("preallocate of " + which, x, Check.INDEX, y -> y.preallocate(file, block, 1));
                check.refused("punch of " + which, x, Check.INDEX, y -> y.punch(file, block, 1));
            }
        }
    }

    private void sizeAtFirst() {
        check.part("and a SIZE (0 at first");
        Tested x = new Tested();
        for (int f = 0; f < 4; f++) {
            check.due("size of " + f, x.about(f, 0), 0);
        }
        x.write(2, 0, 1);
        check.due("sizes", x.about(0, 0) + " " + x.about(1, 0) + " " + x.about(2, 0) + " " + x.about(3, 0), "0 0 1 0");
    }

    private void sizeAtMost() {
        check.part("a SIZE (at most 60)");
        Tested x = new Tested();
        x.write(0, 58, 1);
        check.due("size with block 58", x.about(0, 0), 59);
        x.write(0, 59, 1);
        check.due("size with block 59", x.about(0, 0), 60);
        x.truncate(1, 60);
        check.due("size truncated to 60", x.about(1, 0), 60);
        check.refused("truncate(2, 61)", x, Check.ARGUMENT, y -> y.truncate(2, 61));
    }

    private void holeAtFirst() {
        check.part("A block is a HOLE (at first)");
        for (int f = 0; f < 4; f++) {
            Tested x = new Tested();
            check.due("mapped", x.about(f, 1), 0);
            int file = f;
            check.refused("extent 0 of file " + f, x, Check.INDEX, y -> y.extent(file, 0, 0));
            // Each of them was a hole if each of them is mapped now.
            check.due("preallocate of all blocks", x.preallocate(f, 0, 60), 60);
        }
    }

    private void mappedToOnePlace() {
        check.part("MAPPED to a place, no two to the same one");
        Tested x = Volumes.full();
        TreeSet<Integer> owners = new TreeSet<>();
        for (int p = 0; p < 80; p++) {
            owners.add(x.owner(p));
        }
        check.due("owners that differ", owners.size(), 80);
        check.due("places without an owner", owners.contains(DelayedExtents.NONE) ? 1 : 0, 0);
        check.due("blocks of file 0 among them", owners.subSet(0, 60).size(), x.about(0, 1));
        check.due("blocks of file 3 among them", owners.subSet(180, 240).size(), x.about(3, 1));
        // A block that is mapped already stays where it is.
        x.punch(0, 0, 1);
        check.due("preallocate of mapped blocks", x.preallocate(1, 0, 24), 0);
        check.due("owner(0)", x.owner(0), DelayedExtents.NONE);
        check.due("owner(24)", x.owner(24), 60);
    }

    private void writtenOrUnwritten() {
        check.part("a mapped one is WRITTEN or UNWRITTEN");
        Tested x = new Tested();
        x.preallocate(0, 0, 1);
        check.due("unwritten when preallocated", x.extent(0, 0, 3), 1);
        x.write(0, 0, 4);
        check.due("unwritten with a page", x.extent(0, 0, 3), 1);
        x.crash();
        check.due("unwritten when the page is gone", x.extent(0, 0, 3), 1);
        x.write(0, 0, 4);
        x.flush(0);
        check.due("written when flushed", x.extent(0, 0, 3), 0);
        x.preallocate(0, 0, 1);
        check.due("written when preallocated again", x.extent(0, 0, 3), 0);
        x.write(0, 0, 5);
        x.crash();
        check.due("written when a page is gone", x.extent(0, 0, 3), 0);
        x.truncate(0, 0);
        x.preallocate(0, 0, 1);
        check.due("unwritten when it was a hole between", x.extent(0, 0, 3), 1);
        check.due("at the same place", x.extent(0, 0, 1), 0);
    }

    private void pageBesides() {
        check.part("It may have a PAGE besides, with a value");
        Tested x = new Tested();
        x.write(0, 9, 1);
        check.due("pages of a hole", x.about(0, 4), 1);
        check.due("it stays a hole", x.about(0, 1), 0);
        x.preallocate(0, 9, 1);
        check.due("pages of an unwritten block", x.about(0, 4), 1);
        x.flush(0);
        check.due("pages of a flushed block", x.about(0, 4), 0);
        x.write(0, 9, 2);
        check.due("pages of a written block", x.about(0, 4), 1);
        check.due("it stays mapped", x.about(0, 1), 1);
        x.write(0, 9, 3);
        check.due("pages of a block written again", x.about(0, 4), 1);
        check.due("the page's value", x.read(0, 9), 3);
    }

    private void pagesOfOneFile() {
        check.part("at most 24 pages in all: of one file");
        Tested x = new Tested();
        for (int b = 36; b < 60; b++) {
            x.write(1, b, b);
            check.due("pages", x.about(1, 4), b - 35);
        }
        check.refused("the 25th page", x, Check.STATE, Check.write(1, 35, 1));
        check.refused("the 25th page, of another file", x, Check.STATE, Check.write(0, 36, 1));
        check.due("flush(1)", x.flush(1), 24);
    }

    private void pagesInAll() {
        check.part("at most 24 pages in all: of all files");
        Tested x = new Tested();
        x.preallocate(3, 20, 1);
        x.write(3, 30, 1);
        x.flush(3);
        for (int i = 0; i < 23; i++) {
            x.write(i % 4, i / 4, 7);
        }
        Tested withHole = x.again();
        withHole.write(2, 59, 7);
        Tested withUnwritten = x.again();
        withUnwritten.write(3, 20, 7);
        Tested withWritten = x.again();
        withWritten.write(3, 30, 7);
        for (Tested y : new Tested[] {withHole, withUnwritten, withWritten}) {
            check.due("pages", y.about(0, 4) + y.about(1, 4) + y.about(2, 4) + y.about(3, 4), 24);
            check.refused("the 25th page, of a hole", y, Check.STATE, Check.write(2, 58, 7));
            y.write(0, 0, 8);
            check.due("a page that was there", y.read(0, 0), 8);
        }
        check.refused("the 25th page, of an unwritten block", withHole, Check.STATE, Check.write(3, 20, 7));
        check.refused("the 25th page, of a written block", withHole, Check.STATE, Check.write(3, 30, 7));
    }

    private void pagesThatGoMakeRoom() {
        check.part("at most 24 pages in all: when some go");
        Tested x = new Tested();
        for (int i = 0; i < 24; i++) {
            x.write(i / 12, i % 12, 1);
        }
        x.punch(0, 3, 1);
        x.write(2, 0, 1);
        check.refused("write behind a punch", x, Check.STATE, Check.write(2, 1, 1));
        x.truncate(0, 11);
        x.write(2, 1, 1);
        check.refused("write behind a truncate", x, Check.STATE, Check.write(2, 2, 1));
        x.flush(2);
        x.write(2, 2, 1);
        x.write(2, 0, 1);
        check.refused("write behind a flush", x, Check.STATE, Check.write(2, 1, 1));
        check.due("crash()", x.crash(), 24);
        x.write(2, 1, 1);
        check.due("pages behind a crash", x.about(2, 4), 1);
        // A preallocated hole keeps its page, so none has gone.
        for (int i = 0; i < 23; i++) {
            x.write(3, i, 1);
        }
        x.preallocate(3, 0, 20);
        check.refused("write behind a preallocate", x, Check.STATE, Check.write(2, 3, 1));
    }

    private void readsAsThePage() {
        check.part("A block READS as the value of its page");
        Tested x = new Tested();
        x.write(0, 0, 6);
        x.flush(0);
        x.preallocate(0, 10, 1);
        for (int value : new int[] {5, 0, -1, MIN, MAX}) {
            x.write(0, 0, value);
            x.write(0, 10, value);
            x.write(0, 20, value);
            check.due("a written block", x.read(0, 0), value);
            check.due("an unwritten block", x.read(0, 10), value);
            check.due("a hole", x.read(0, 20), value);
            check.due("the place", x.value(0), 6);
        }
    }

    private void readsAsThePlace() {
        check.part("without one, of its place, if it is mapped and written");
        Tested x = Volumes.fullAndWritten();
        for (int i = 0; i < 24; i++) {
            check.due("block " + i + " of file 0", x.read(0, i), 1000 + i);
            check.due("block " + i + " of file 2", x.read(2, i), 1048 + i);
        }
        check.due("the last place's block", x.read(3, 7), 1079);
        x.write(3, 7, 4);
        x.crash();
        check.due("a block whose page is gone", x.read(3, 7), 1079);
    }

    private void readsAsZero() {
        check.part("else 0");
        Tested x = Volumes.fullAndWritten();
        check.due("a hole behind the blocks", x.read(0, 24), 0);
        // An unwritten block between written ones needs room for the tree.
        x.truncate(3, 0);
        x.punch(0, 5, 1);
        check.due("a hole between the blocks", x.read(0, 5), 0);
        check.due("the value of the place it had", x.value(5), 1005);
        check.due("preallocate(0, 5, 1)", x.preallocate(0, 5, 1), 1);
        check.due("the place it has again", x.owner(5), 5);
        check.due("the value there", x.value(5), 1005);
        check.due("an unwritten block", x.read(0, 5), 0);
        x.punch(0, 23, 1);
        x.preallocate(3, 30, 1);
        check.due("the place of another's block", x.owner(23), 210);
        check.due("an unwritten block at another's place", x.read(3, 30), 0);
    }

    private void lastOf512Calls() {
        check.part("An object is used for at most 512 calls");
        Tested x = new Tested();
        for (int i = 1; i < 512; i += 2) {
            x.write(0, i % 24, i);
            check.due("read at call " + (i + 1), x.read(0, i % 24), i);
        }
        check.due("calls", x.calls(), 512);
        Tested y = new Tested();
        for (int i = 0; i < 255; i++) {
            y.write(3, 59, i);
            y.flush(3);
        }
        y.truncate(3, 0);
        check.due("the 512th call", y.free(), 80);
    }

    private void askingChangesNothing() {
        check.part("what only answers changes nothing");
        Tested asked = Volumes.someOfEach();
        Tested other = Volumes.someOfEach();
        for (int i = 0; i < 40; i++) {
            asked.read(i % 4, i);
            asked.about(i % 4, i % 6);
            asked.extent(i % 2, 0, i % 4);
            asked.free();
            asked.reserved();
            asked.owner(2 * i);
            asked.value(2 * i);
        }
        for (int f = 0; f < 4; f++) {
            check.due("flush(" + f + ")", asked.flush(f), other.flush(f));
            for (int b : new int[] {0, 1, 3, 4, 5, 50, 59}) {
                check.due("read(" + f + ", " + b + ")", asked.read(f, b), other.read(f, b));
            }
            for (int what = 0; what <= 5; what++) {
                check.due("about(" + f + ", " + what + ")", asked.about(f, what), other.about(f, what));
            }
        }
        for (int p = 0; p < 20; p++) {
            check.due("owner(" + p + ")", asked.owner(p), other.owner(p));
            check.due("value(" + p + ")", asked.value(p), other.value(p));
        }
    }
}
