/** The sentences of each promise that name a boundary: the last argument that fits, the first that does not. */
public final class BoundariesTest {
    private static final int MIN = Check.MIN;
    private static final int MAX = Check.MAX;
    /** Numbers at and beside every limit, whose sums and differences may wrap around. */
    private static final int[] EDGES = {
        MIN, MIN + 1, MIN + 59, MIN + 60, MIN + 61, -61, -60, -59, -2, -1, 0, 1, 2, 3, 29, 30, 31, 58, 59, 60, 61, 80,
        MAX - 60, MAX - 59, MAX - 58, MAX - 1, MAX,
    };

    private final Check check = new Check();

    public static void main(String[] args) {
        BoundariesTest t = new BoundariesTest();
        t.newObject();
        t.writeGivesAPage();
        t.writeSetsTheSize();
        t.writeOutside();
        t.writeWithoutPages();
        t.writeWithoutRoom();
        t.writeNamesTheFirst();
        t.readOutside();
        t.preallocateAnswersHoles();
        t.preallocateLeavesTheSize();
        t.preallocateLeavesPages();
        t.preallocateArguments();
        t.preallocateNamesTheFirst();
        t.punchAnswersMapped();
        t.punchOnlyItsBlocks();
        t.punchLeavesTheSize();
        t.punchArguments();
        t.punchNamesTheFirst();
        t.truncateEachSize();
        t.truncateToMore();
        t.truncateOfPages();
        t.truncateArguments();
        t.truncateNamesTheFirst();
        t.flushAnswersPages();
        t.flushArguments();
        t.crashAnswersPages();
        t.crashLeavesTheRest();
        t.extentNumbers();
        t.extentArguments();
        t.extentNamesTheFirst();
        t.aboutArguments();
        t.aboutNamesTheFirst();
        t.freeAndReserved();
        t.ownerNumbers();
        t.placeArguments();
        t.check.end();
    }

    private static boolean isFile(int file) {
        return file >= 0 && file <= 3;
    }

    private static boolean isBlock(int block) {
        return block >= 0 && block <= 59;
    }

    private static boolean isRow(int from, int n) {
        return n >= 1 && (long) from + n <= 60;
    }

    private void newObject() {
        check.part("promise 1: Empty files; all places have the value 0.");
        Tested x = new Tested();
        for (int f = 0; f < 4; f++) {
            for (int what = 0; what <= 5; what++) {
                check.due("about(" + f + ", " + what + ")", x.about(f, what), 0);
            }
            int file = f;
            check.refused("extent(" + f + ", 0, 0)", x, Check.INDEX, y -> y.extent(file, 0, 0));
            check.due("flush(" + f + ")", x.flush(f), 0);
            check.due("punch(" + f + ", 0, 60)", x.punch(f, 0, 60), 0);
            check.due("truncate(" + f + ", 0)", x.truncate(f, 0), 0);
        }
        for (int p = 0; p < 80; p++) {
            check.due("value(" + p + ")", x.value(p), 0);
            check.due("owner(" + p + ")", x.owner(p), DelayedExtents.NONE);
        }
        check.due("crash()", x.crash(), 0);
        check.same("behind calls that find nothing", x, new Tested());
    }

    private void writeGivesAPage() {
        check.part("promise 2: A block gets a page with a value (or its page does)");
        Tested x = new Tested();
        for (int value : EDGES) {
            x.write(2, 59, value);
            check.due("read of " + value, x.read(2, 59), value);
            check.due("pages", x.about(2, 4), 1);
            check.due("reserved()", x.reserved(), 1);
        }
        check.due("flush(2)", x.flush(2), 1);
        check.due("value(0)", x.value(0), MAX);
    }

    private void writeSetsTheSize() {
        check.part("promise 2: a size that is less becomes block + 1");
        for (int size : new int[] {0, 1, 5, 59, 60}) {
            for (int block : new int[] {0, 3, 4, 5, 6, 58, 59}) {
                Tested x = new Tested();
                x.truncate(1, size);
                x.write(1, block, 1);
                check.due("size " + size + " with block " + block, x.about(1, 0), block + 1 > size ? block + 1 : size);
                x.truncate(1, 0);
                x.write(1, block, 1);
                check.due("size 0 with block " + block, x.about(1, 0), block + 1);
            }
        }
        // A page that is there already, behind a size that has become less.
        Tested x = new Tested();
        x.write(0, 7, 1);
        x.flush(0);
        x.write(0, 7, 2);
        check.due("size with a written block", x.about(0, 0), 8);
        x.write(0, 6, 2);
        check.due("size with a block before", x.about(0, 0), 8);
    }

    private void writeOutside() {
        check.part("promise 2: IndexOutOfBoundsException when there is no such file or block");
        for (int file : new int[] {MIN, -1, 0, 3, 4, MAX}) {
            for (int block : EDGES) {
                String call = "write(" + file + ", " + block + ", 9)";
                Tested x = Volumes.someOfEach();
                if (isFile(file) && isBlock(block)) {
                    x.write(file, block, 9);
                    check.due("read behind " + call, x.read(file, block), 9);
                } else {
                    check.refused(call, x, Check.INDEX, Check.write(file, block, 9));
                }
            }
        }
    }

    private Tested withPages(int pages) {
        Tested x = new Tested();
        x.preallocate(2, 0, 1);
        x.write(2, 1, 5);
        x.flush(2);
        for (int i = 0; i < pages; i++) {
            x.write(i % 2, 20 + i / 2, i);
        }
        return x;
    }

    private void writeWithoutPages() {
        check.part("promise 2: IllegalStateException when it has no page and there are 24");
        int[] blocks = {0, 1, 2};
        String[] kinds = {"unwritten", "written", "hole"};
        for (int i = 0; i < 3; i++) {
            Tested with23 = withPages(23);
            with23.write(2, blocks[i], 7);
            check.due("read of " + kinds[i] + " beside 23 pages", with23.read(2, blocks[i]), 7);
            with23.write(2, blocks[i], 8);
            check.due("read of " + kinds[i] + " among 24 pages", with23.read(2, blocks[i]), 8);
            Tested with24 = withPages(24);
            check.refused("write of " + kinds[i] + " beside 24 pages", with24, Check.STATE, Check.write(2, blocks[i], 7));
        }
    }

    private void writeWithoutRoom() {
        check.part("promise 2: UnsupportedOperationException as said above");
        Tested x = Volumes.full();
        check.refused("write of a hole", x, Check.ROOM, Check.write(3, 59, 1));
        check.refused("write of an unwritten block", x, Check.ROOM, Check.write(0, 0, 1));
        x.punch(3, 7, 1);
        x.write(3, 59, 1);
        check.due("size", x.about(3, 0), 60);
        check.due("sizes of the others", x.about(0, 0) + x.about(1, 0) + x.about(2, 0), 0);
    }

    private void writeNamesTheFirst() {
        check.part("promise 2: where several exceptions fit, the one named first");
        Tested x = new Tested();
        x.preallocate(0, 0, 48);
        for (int b = 0; b < 24; b++) {
            x.write(1, b, 1);
        }
        check.due("free less reserved", x.free() - x.reserved(), 0);
        check.refused("write of a hole", x, Check.STATE, Check.write(2, 0, 1));
        check.refused("write of an unwritten block", x, Check.STATE, Check.write(0, 0, 1));
        check.refused("write of no such block", x, Check.INDEX, Check.write(2, 60, 1));
        check.refused("write of no such file", x, Check.INDEX, Check.write(-1, 0, 1));
        x.write(1, 23, 2);
        check.due("read of a page written again", x.read(1, 23), 2);
        x.punch(1, 23, 1);
        x.write(2, 0, 1);
        check.due("free less reserved with a page of another file", x.free() - x.reserved(), 0);
        Tested full = Volumes.full();
        check.refused("write of no such block when nothing is free", full, Check.INDEX, Check.write(3, -1, 1));
        check.refused("write of no such file when nothing is free", full, Check.INDEX, Check.write(4, 9, 1));
    }

    private void readOutside() {
        check.part("promise 3: IndexOutOfBoundsException when there is no such file or block");
        for (int file : EDGES) {
            for (int block : EDGES) {
                if (!isFile(file) || !isBlock(block)) {
                    Tested x = Volumes.someOfEach();
                    check.refused("read(" + file + ", " + block + ")", x, Check.INDEX, y -> y.read(file, block));
                }
            }
        }
        Tested x = Volumes.someOfEach();
        check.refused("read(3, 60)", x, Check.INDEX, y -> y.read(3, 60));
        check.refused("read(4, 59)", x, Check.INDEX, y -> y.read(4, 59));
        check.due("read(1, 59)", x.read(1, 59), 23);
        check.due("read(2, 0)", x.read(2, 0), 24);
    }

    private void preallocateAnswersHoles() {
        check.part("promise 4: Maps all holes of the n blocks from one on; answers how many these are");
        Tested x = new Tested();
        check.due("the first block", x.preallocate(0, 0, 1), 1);
        check.due("the last block", x.preallocate(0, 59, 1), 1);
        check.due("a block that is mapped", x.preallocate(0, 0, 1), 0);
        check.due("a mapped one and a hole", x.preallocate(0, 0, 2), 1);
        check.due("holes and a mapped one", x.preallocate(0, 58, 2), 1);
        check.due("all blocks", x.preallocate(0, 0, 60), 56);
        check.due("all blocks again", x.preallocate(0, 0, 60), 0);
        check.due("mapped", x.about(0, 1), 60);
        Tested y = Volumes.someOfEach();
        check.due("holes, written and unwritten ones", y.preallocate(0, 0, 8), 3);
    }

    private void preallocateLeavesTheSize() {
        check.part("promise 4: The size stays.");
        Tested x = new Tested();
        x.preallocate(0, 0, 60);
        check.due("size 0", x.about(0, 0), 0);
        x.write(1, 4, 1);
        x.preallocate(1, 4, 3);
        check.due("size 5", x.about(1, 0), 5);
        x.truncate(2, 60);
        x.preallocate(2, 0, 1);
        check.due("size 60", x.about(2, 0), 60);
    }

    private void preallocateLeavesPages() {
        check.part("promise 4: unwritten");
        Tested x = Volumes.someOfEach();
        check.due("preallocate(2, 0, 2)", x.preallocate(2, 0, 2), 2);
        check.due("unwritten", x.extent(2, 0, 3), 1);
        check.due("pages", x.about(2, 4), 1);
        check.due("reads", x.read(2, 0) + " " + x.read(2, 1), "24 0");
        check.due("preallocate(0, 1, 1) of a written block", x.preallocate(0, 1, 1), 0);
        check.due("it stays written", x.extent(0, 0, 3), 0);
        x.crash();
        check.due("reads when the pages are gone", x.read(2, 0) + " " + x.read(0, 1), "0 12");
    }

    private void preallocateArguments() {
        check.part("promise 4: IndexOutOfBoundsException .. IllegalArgumentException when n is less than 1 or there are not so many");
        for (int from : EDGES) {
            for (int n : EDGES) {
                String call = "preallocate(2, " + from + ", " + n + ")";
                Tested x = new Tested();
                x.write(2, 30, 1);
                if (!isBlock(from)) {
                    check.refused(call, x, Check.INDEX, y -> y.preallocate(2, from, n));
                } else if (!isRow(from, n)) {
                    check.refused(call, x, Check.ARGUMENT, y -> y.preallocate(2, from, n));
                } else {
                    check.due(call, x.preallocate(2, from, n), n);
                    check.due("the first block of " + call, x.extent(2, 0, 0), from);
                    check.due("mapped by " + call, x.about(2, 1), n);
                }
            }
        }
    }

    private void preallocateNamesTheFirst() {
        check.part("promise 4: where several exceptions fit, the one named first");
        Tested x = Volumes.full();
        check.refused("no such file, no such row, no room", x, Check.INDEX, y -> y.preallocate(4, 0, 61));
        check.refused("no such file, no room", x, Check.INDEX, y -> y.preallocate(-1, 0, 60));
        check.refused("no such block, no such row", x, Check.INDEX, y -> y.preallocate(3, 60, 1));
        check.refused("no such block, n too small", x, Check.INDEX, y -> y.preallocate(3, -1, 0));
        check.refused("no such block, a row that would end within", x, Check.INDEX, y -> y.preallocate(3, -1, 2));
        check.refused("no such row, no room", x, Check.ARGUMENT, y -> y.preallocate(3, 30, 31));
        check.refused("n too small, no room", x, Check.ARGUMENT, y -> y.preallocate(3, 30, 0));
        check.refused("no room", x, Check.ROOM, y -> y.preallocate(3, 30, 30));
    }

    private void punchAnswersMapped() {
        check.part("promise 5: The n blocks from one on become holes without pages; answers how many were mapped");
        Tested x = Volumes.someOfEach();
        check.due("a hole with a page", x.punch(2, 0, 1), 0);
        check.due("pages", x.about(2, 4), 0);
        check.due("a hole without", x.punch(2, 0, 1), 0);
        check.due("a written block with a page", x.punch(0, 1, 1), 1);
        check.due("its page", x.about(0, 4), 1);
        check.due("a written block without", x.punch(0, 3, 1), 1);
        check.due("an unwritten block with a page", x.punch(0, 5, 1), 1);
        check.due("its page", x.about(0, 4), 0);
        check.due("an unwritten block without", x.punch(0, 4, 1), 1);
        check.due("all blocks", x.punch(1, 0, 60), 10);
        check.due("all blocks again", x.punch(1, 0, 60), 0);
        check.due("the last hole with a page", x.punch(3, 59, 1), 0);
        check.due("crash()", x.crash(), 0);
        check.due("extents of file 0", Check.extents(x, 0), "6@5x1u");
        check.due("free()", x.free(), 79);
        for (int b = 0; b < 60; b++) {
            check.due("read(0, " + b + ")", x.read(0, b), 0);
        }
    }

    private void punchOnlyItsBlocks() {
        check.part("promise 5: The n blocks from one on");
        for (int from : new int[] {0, 1, 10, 22, 23}) {
            for (int n : new int[] {1, 2, 13, 14, 23, 24, 25}) {
                Tested x = new Tested();
                for (int b = 0; b < 24; b++) {
                    x.write(1, b, 100 + b);
                }
                x.flush(1);
                for (int b = 0; b < 24; b++) {
                    x.write(1, b, 200 + b);
                }
                int end = from + n < 24 ? from + n : 24;
                check.due("punch(1, " + from + ", " + n + ")", x.punch(1, from, n), end - from);
                check.due("pages", x.about(1, 4), 24 - (end - from));
                for (int b = 0; b < 24; b++) {
                    boolean isPunched = b >= from && b < end;
                    check.due("read(1, " + b + ")", x.read(1, b), isPunched ? 0 : 200 + b);
                    check.due("owner(" + b + ")", x.owner(b), isPunched ? DelayedExtents.NONE : 60 + b);
                    check.due("value(" + b + ")", x.value(b), 100 + b);
                }
            }
        }
    }

    private void punchLeavesTheSize() {
        check.part("promise 5: The size stays.");
        Tested x = new Tested();
        x.write(0, 59, 1);
        x.punch(0, 59, 1);
        check.due("size", x.about(0, 0), 60);
        x.punch(0, 0, 60);
        check.due("size of a file of holes", x.about(0, 0), 60);
        x.punch(1, 30, 1);
        check.due("size of an empty file", x.about(1, 0), 0);
    }

    private void punchArguments() {
        check.part("promise 5: IndexOutOfBoundsException .. IllegalArgumentException when n is less than 1 or there are not so many");
        for (int from : EDGES) {
            for (int n : EDGES) {
                String call = "punch(2, " + from + ", " + n + ")";
                Tested x = new Tested();
                x.preallocate(2, 0, 60);
                x.write(2, 30, 1);
                if (!isBlock(from)) {
                    check.refused(call, x, Check.INDEX, y -> y.punch(2, from, n));
                } else if (!isRow(from, n)) {
                    check.refused(call, x, Check.ARGUMENT, y -> y.punch(2, from, n));
                } else {
                    check.due(call, x.punch(2, from, n), n);
                    check.due("mapped behind " + call, x.about(2, 1), 60 - n);
                }
            }
        }
    }

    private void punchNamesTheFirst() {
        check.part("promise 5: where several exceptions fit, the one named first");
        Tested x = Volumes.someOfEach();
        for (int n : new int[] {MIN, -1, 0, 61, MAX}) {
            check.refused("punch(4, 0, " + n + ")", x, Check.INDEX, y -> y.punch(4, 0, n));
            check.refused("punch(-1, 0, " + n + ")", x, Check.INDEX, y -> y.punch(-1, 0, n));
            check.refused("punch(0, 60, " + n + ")", x, Check.INDEX, y -> y.punch(0, 60, n));
            check.refused("punch(0, -1, " + n + ")", x, Check.INDEX, y -> y.punch(0, -1, n));
            check.refused("punch(0, 0, " + n + ")", x, Check.ARGUMENT, y -> y.punch(0, 0, n));
        }
    }

    private void truncateEachSize() {
        check.part("promise 6: The size becomes that, and the blocks from there on become holes without pages");
        Tested all = new Tested();
        all.preallocate(1, 0, 60);
        all.write(1, 0, 5);
        all.write(1, 58, 6);
        all.write(1, 59, 7);
        all.preallocate(2, 59, 1);
        for (int size = 0; size <= 60; size++) {
            Tested x = all.again();
            check.due("truncate(1, " + size + ")", x.truncate(1, size), 60 - size);
            check.due("size", x.about(1, 0), size);
            check.due("mapped", x.about(1, 1), size);
            check.due("pages with size " + size, x.about(1, 4), (size > 0 ? 1 : 0) + (size > 58 ? 1 : 0) + (size > 59 ? 1 : 0));
            check.due("the other file's mapped", x.about(2, 1), 1);
            if (size > 0) {
                check.due("the last block that stays", x.owner(size - 1), 60 + size - 1);
            }
            if (size < 60) {
                check.due("the first that goes", x.owner(size), DelayedExtents.NONE);
            }
        }
    }

    private void truncateToMore() {
        check.part("promise 6: a size that is as large, or larger");
        Tested x = new Tested();
        x.write(0, 4, 1);
        x.flush(0);
        x.write(0, 4, 2);
        check.due("truncate to the same", x.truncate(0, 5), 0);
        check.due("read of the last block", x.read(0, 4), 2);
        check.due("truncate to one more", x.truncate(0, 6), 0);
        check.due("size", x.about(0, 0), 6);
        check.due("truncate to 60", x.truncate(0, 60), 0);
        check.due("size", x.about(0, 0), 60);
        check.due("reads", x.read(0, 4) + " " + x.read(0, 5) + " " + x.read(0, 59), "2 0 0");
        x.preallocate(1, 30, 2);
        check.due("truncate to more, with mapped blocks behind it", x.truncate(1, 31), 1);
        check.due("size", x.about(1, 0), 31);
        check.due("mapped", x.about(1, 1), 1);
    }

    private void truncateOfPages() {
        check.part("promise 6: answers how many of them were mapped");
        Tested x = new Tested();
        x.write(0, 10, 1);
        x.write(0, 11, 2);
        check.due("truncate of a hole with a page", x.truncate(0, 11), 0);
        check.due("pages", x.about(0, 4), 1);
        check.due("read(0, 10)", x.read(0, 10), 1);
        check.due("truncate of an empty file", x.truncate(1, 0), 0);
        x.flush(0);
        x.write(0, 10, 3);
        check.due("truncate of a written block with a page", x.truncate(0, 10), 1);
        check.due("crash()", x.crash(), 0);
        check.due("value(0)", x.value(0), 1);
    }

    private void truncateArguments() {
        check.part("promise 6: IllegalArgumentException when size is not 0 .. 60");
        for (int size : EDGES) {
            Tested x = Volumes.someOfEach();
            if (size >= 0 && size <= 60) {
                x.truncate(0, size);
                check.due("size", x.about(0, 0), size);
            } else {
                check.refused("truncate(0, " + size + ")", x, Check.ARGUMENT, y -> y.truncate(0, size));
            }
        }
    }

    private void truncateNamesTheFirst() {
        check.part("promise 6: where several exceptions fit, the one named first");
        Tested x = Volumes.someOfEach();
        for (int size : new int[] {MIN, -1, 61, MAX}) {
            check.refused("truncate(4, " + size + ")", x, Check.INDEX, y -> y.truncate(4, size));
            check.refused("truncate(-1, " + size + ")", x, Check.INDEX, y -> y.truncate(-1, size));
        }
    }

    private void flushAnswersPages() {
        check.part("promise 7: Flushes a file; answers how many pages it had");
        Tested x = Volumes.someOfEach();
        check.due("flush(0)", x.flush(0), 2);
        check.due("flush(1)", x.flush(1), 1);
        check.due("flush(2)", x.flush(2), 1);
        check.due("flush(3)", x.flush(3), 1);
        for (int f = 0; f < 4; f++) {
            check.due("flush(" + f + ") again", x.flush(f), 0);
        }
        check.due("sizes", x.about(0, 0) + " " + x.about(1, 0) + " " + x.about(2, 0) + " " + x.about(3, 0), "6 60 1 60");
    }

    private void flushArguments() {
        check.part("promise 7: IndexOutOfBoundsException when there is no such file");
        for (int file : EDGES) {
            Tested x = Volumes.someOfEach();
            if (isFile(file)) {
                check.due("flush(" + file + ")", x.flush(file), file == 0 ? 2 : 1);
            } else {
                check.refused("flush(" + file + ")", x, Check.INDEX, y -> y.flush(file));
            }
        }
    }

    private void crashAnswersPages() {
        check.part("promise 8: All pages go, of all files; answers how many");
        Tested x = new Tested();
        check.due("crash() of a new object", x.crash(), 0);
        for (int i = 0; i < 24; i++) {
            x.write(i % 4, 59 - i, i);
        }
        check.due("crash() of 24", x.crash(), 24);
        check.due("crash() again", x.crash(), 0);
        x.write(3, 59, 0);
        check.due("crash() of one", x.crash(), 1);
        check.due("reserved()", x.reserved(), 0);
        for (int f = 0; f < 4; f++) {
            check.due("pages of " + f, x.about(f, 4), 0);
            check.due("flush(" + f + ")", x.flush(f), 0);
        }
        check.due("free()", x.free(), 80);
    }

    private void crashLeavesTheRest() {
        check.part("promise 8: All pages go, and nothing else");
        Tested x = Volumes.someOfEach();
        check.due("crash()", x.crash(), 5);
        check.due("sizes", x.about(0, 0) + " " + x.about(1, 0) + " " + x.about(2, 0) + " " + x.about(3, 0), "6 60 1 60");
        check.due("extents of 0", Check.extents(x, 0), "1@1x1 3@2x1 4@3x3u");
        check.due("extents of 1", Check.extents(x, 1), "50@6x8u 58@14x2u");
        check.due("values", x.value(0) + " " + x.value(1) + " " + x.value(2) + " " + x.value(3), "11 12 13 0");
        check.due("reads", x.read(0, 1) + " " + x.read(0, 5) + " " + x.read(1, 59) + " " + x.read(2, 0), "12 0 0 0");
        Tested y = x.again();
        y.crash();
        check.same("behind a crash without pages", y, x);
    }

    private void extentNumbers() {
        check.part("promise 9: Number what of extent k (from 0, by their blocks)");
        Tested x = new Tested();
        x.preallocate(0, 40, 9);
        x.write(0, 59, 1);
        x.flush(0);
        x.preallocate(0, 0, 1);
        int[][] want = {{0, 10, 1, 1}, {40, 0, 8, 1}, {48, 8, 1, 1}, {59, 9, 1, 0}};
        check.due("extents", x.about(0, 2), 4);
        for (int k = 0; k < 4; k++) {
            for (int what = 0; what <= 3; what++) {
                check.due("extent(0, " + k + ", " + what + ")", x.extent(0, k, what), want[k][what]);
            }
        }
    }

    private void extentArguments() {
        check.part("promise 9: IndexOutOfBoundsException .. IllegalArgumentException when what is none of these");
        Tested three = new Tested();
        three.preallocate(1, 0, 17);
        for (int k : EDGES) {
            for (int what : EDGES) {
                Tested x = three.again();
                String call = "extent(1, " + k + ", " + what + ")";
                if (k < 0 || k > 2) {
                    check.refused(call, x, Check.INDEX, y -> y.extent(1, k, what));
                } else if (what < 0 || what > 3) {
                    check.refused(call, x, Check.ARGUMENT, y -> y.extent(1, k, what));
                } else {
                    int[] want = {8 * k, 8 * k, k == 2 ? 1 : 8, 1};
                    check.due(call, x.extent(1, k, what), want[what]);
                }
            }
        }
    }

    private void extentNamesTheFirst() {
        check.part("promise 9: where several exceptions fit, the one named first");
        Tested x = Volumes.someOfEach();
        for (int what : new int[] {MIN, -1, 4, MAX}) {
            check.refused("extent(4, 0, " + what + ")", x, Check.INDEX, y -> y.extent(4, 0, what));
            check.refused("extent(-1, 0, " + what + ")", x, Check.INDEX, y -> y.extent(-1, 0, what));
            check.refused("extent(0, 3, " + what + ")", x, Check.INDEX, y -> y.extent(0, 3, what));
            check.refused("extent(2, 0, " + what + ")", x, Check.INDEX, y -> y.extent(2, 0, what));
            check.refused("extent(0, 2, " + what + ")", x, Check.ARGUMENT, y -> y.extent(0, 2, what));
        }
    }

    private void aboutArguments() {
        check.part("promise 10: IllegalArgumentException when what is none of these");
        Tested x = Volumes.someOfEach();
        // 3 extents and the page of an unwritten block: 5 extents would have 2 tree blocks.
        int[] want = {6, 5, 3, 0, 2, 2};
        for (int what : EDGES) {
            if (what < 0 || what > 5) {
                check.refused("about(0, " + what + ")", x, Check.ARGUMENT, y -> y.about(0, what));
            }
        }
        check.refused("about(0, 6)", x, Check.ARGUMENT, y -> y.about(0, 6));
        check.refused("about(3, 6)", x, Check.ARGUMENT, y -> y.about(3, 6));
        for (int what = 0; what <= 5; what++) {
            check.due("about(0, " + what + ")", x.about(0, what), want[what]);
        }
    }

    private void aboutNamesTheFirst() {
        check.part("promise 10: where several exceptions fit, the one named first");
        Tested x = Volumes.someOfEach();
        for (int what : new int[] {MIN, -1, 6, MAX}) {
            check.refused("about(4, " + what + ")", x, Check.INDEX, y -> y.about(4, what));
            check.refused("about(-1, " + what + ")", x, Check.INDEX, y -> y.about(-1, what));
        }
    }

    private void freeAndReserved() {
        check.part("promises 11 and 12: How many blocks are free, and reserved in all");
        Tested x = Volumes.someOfEach();
        check.due("free()", x.free(), 65);
        // 2 for file 0's tree, 1 for file 1's, and the holes of files 2 and 3.
        check.due("reserved()", x.reserved(), 5);
        check.due("the files' reserved", x.about(0, 5) + " " + x.about(1, 5) + " " + x.about(2, 5) + " " + x.about(3, 5), "2 1 1 1");
        check.due("free() when full", Volumes.full().free(), 0);
    }

    private void ownerNumbers() {
        check.part("promise 13: as 60 * file + block; NONE when none is");
        check.due("NONE", DelayedExtents.NONE, -1);
        Tested x = new Tested();
        int[] keys = {0, 59, 60, 119, 120, 179, 180, 239};
        for (int key : keys) {
            x.preallocate(key / 60, key % 60, 1);
        }
        for (int p = 0; p < keys.length; p++) {
            check.due("owner(" + p + ")", x.owner(p), keys[p]);
        }
        check.due("owner(8)", x.owner(8), -1);
        check.due("owner(79)", x.owner(79), -1);
        x.punch(0, 0, 1);
        check.due("owner(0) behind a punch", x.owner(0), -1);
    }

    private void placeArguments() {
        check.part("promises 13 and 14: IndexOutOfBoundsException when there is no such place");
        for (int place : new int[] {MIN, MIN + 1, -80, -60, -1, 80, 81, 239, 240, MAX - 1, MAX}) {
            Tested x = Volumes.fullAndWritten();
            check.refused("owner(" + place + ")", x, Check.INDEX, y -> y.owner(place));
            check.refused("value(" + place + ")", x, Check.INDEX, y -> y.value(place));
        }
        Tested x = Volumes.fullAndWritten();
        for (int place : new int[] {0, 1, 78, 79}) {
            check.due("value(" + place + ")", x.value(place), 1000 + place);
        }
        check.due("owners", x.owner(0) + " " + x.owner(1) + " " + x.owner(78) + " " + x.owner(79), "0 1 186 187");
    }
}
