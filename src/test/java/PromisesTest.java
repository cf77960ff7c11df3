/** Each promise of the document by itself: ordinary inputs, the edges it names, and wrong inputs. */
public final class PromisesTest {
    private static final Class<IndexOutOfBoundsException> INDEX = Check.INDEX;
    private static final Class<IllegalArgumentException> ARGUMENT = Check.ARGUMENT;
    private static final Class<IllegalStateException> STATE = Check.STATE;
    private static final Class<UnsupportedOperationException> ROOM = Check.ROOM;
    private static final int MIN = Check.MIN;
    private static final int MAX = Check.MAX;
    private static final int[] NO_FILES = {-1, 4, MIN, MAX};
    private static final int[] NO_BLOCKS = {-1, 60, MIN, MAX};
    private static final int[] NO_PLACES = {-1, 80, MIN, MAX};

    private final Check check = new Check();

    public static void main(String[] args) {
        PromisesTest t = new PromisesTest();
        t.newObject();
        t.objectsAreApart();
        t.write();
        t.writeWithoutPages();
        t.writeWithoutRoom();
        t.writePagesBeforeRoom();
        t.read();
        t.preallocate();
        t.preallocateOverPages();
        t.preallocateWithoutRoom();
        t.preallocateWithoutPlaces();
        t.preallocateWithoutRoomForTree();
        t.mapBehindTheBlockBefore();
        t.mapBehindBlock0();
        t.mapToTheShortestThatFits();
        t.mapToTheLongestWhenNoneFits();
        t.mapAtTheEndOfTheVolume();
        t.punch();
        t.punchInAFullVolume();
        t.truncate();
        t.flush();
        t.flushRowsFromTheLowest();
        t.crash();
        t.extent();
        t.extentsOfEight();
        t.about();
        t.treeBlocks();
        t.free();
        t.reserved();
        t.owner();
        t.value();
        t.check.end();
    }

    private void newObject() {
        check.part("promise 1, new object");
        Tested x = new Tested();
        for (int f = 0; f < 4; f++) {
            for (int what = 0; what <= 5; what++) {
                check.due("about(" + f + ", " + what + ")", x.about(f, what), 0);
            }
            for (int b = 0; b < 60; b++) {
                check.due("read(" + f + ", " + b + ")", x.read(f, b), 0);
            }
        }
        for (int p = 0; p < 80; p++) {
            check.due("owner(" + p + ")", x.owner(p), DelayedExtents.NONE);
            check.due("value(" + p + ")", x.value(p), 0);
        }
        check.due("free()", x.free(), 80);
        check.due("reserved()", x.reserved(), 0);
        check.due("crash()", x.crash(), 0);
        check.due("flush(0)", x.flush(0), 0);
    }

    private void objectsAreApart() {
        check.part("promise 1, two objects");
        Tested one = new Tested();
        Tested other = new Tested();
        String empty = Check.state(other);
        one.write(0, 0, 5);
        one.flush(0);
        one.preallocate(1, 0, 9);
        check.due("the other's state", Check.state(other), empty);
    }

    private void write() {
        check.part("promise 2, write");
        Tested x = new Tested();
        x.write(0, 0, 7);
        check.due("read(0, 0)", x.read(0, 0), 7);
        check.due("size", x.about(0, 0), 1);
        x.write(0, 59, MIN);
        check.due("read(0, 59)", x.read(0, 59), MIN);
        check.due("size", x.about(0, 0), 60);
        x.write(0, 3, 0);
        check.due("size that is not less", x.about(0, 0), 60);
        check.due("pages", x.about(0, 4), 3);
        x.write(0, 3, MAX);
        check.due("read(0, 3)", x.read(0, 3), MAX);
        check.due("pages with one written again", x.about(0, 4), 3);
        check.due("mapped", x.about(0, 1), 0);
        check.due("other file's pages", x.about(1, 4), 0);
        check.due("other file's read", x.read(1, 0), 0);
        for (int file : NO_FILES) {
            check.refused("write(" + file + ", 0, 1)", x, INDEX, Check.write(file, 0, 1));
        }
        for (int block : NO_BLOCKS) {
            check.refused("write(0, " + block + ", 1)", x, INDEX, Check.write(0, block, 1));
        }
    }

    private void writeWithoutPages() {
        check.part("promise 2, write with 24 pages");
        Tested x = new Tested();
        for (int i = 0; i < 24; i++) {
            x.write(i % 4, i / 4, 100 + i);
        }
        check.refused("write of a block without a page", x, STATE, Check.write(2, 50, 1));
        check.refused("write of no such block", x, INDEX, Check.write(2, 60, 1));
        check.refused("write of no such file", x, INDEX, Check.write(4, 0, 1));
        x.write(3, 5, 9);
        check.due("read of a page written again", x.read(3, 5), 9);
        x.punch(3, 5, 1);
        x.write(2, 50, 1);
        check.due("read when a page had gone", x.read(2, 50), 1);
        check.refused("write of a block whose page went", x, STATE, Check.write(3, 5, 1));
        x.flush(0);
        x.write(3, 5, 2);
        check.due("pages", x.about(3, 4), 6);
    }

    private void writeWithoutRoom() {
        check.part("promise 2, write without room");
        Tested x = new Tested();
        // 49 mapped and 2 of the tree leave 29: just enough for 23 holes and 6 of their tree.
        x.preallocate(0, 0, 49);
        for (int b = 0; b < 23; b++) {
            x.write(1, b, b + 1);
        }
        check.due("free()", x.free(), 29);
        check.due("reserved()", x.reserved(), 29);
        check.refused("write of a hole", x, ROOM, Check.write(2, 59, 1));
        check.refused("write of the same file's hole", x, ROOM, Check.write(1, 23, 1));
        check.refused("write of an unwritten block", x, ROOM, Check.write(0, 20, 1));
        x.write(1, 22, 99);
        check.due("read of a page written again", x.read(1, 22), 99);
        check.due("flush(1)", x.flush(1), 23);
        x.write(1, 5, 77);
        check.due("read of a written block's page", x.read(1, 5), 77);
        check.due("free() with the tree smaller than feared", x.free(), 6);
        check.due("reserved()", x.reserved(), 0);
    }

    private void writePagesBeforeRoom() {
        check.part("promise 2, write without pages and without room");
        Tested x = new Tested();
        x.preallocate(0, 0, 48);
        for (int b = 0; b < 24; b++) {
            x.write(1, b, 1);
        }
        check.due("free()", x.free(), 30);
        check.due("reserved()", x.reserved(), 30);
        check.refused("write of a hole", x, STATE, Check.write(2, 0, 1));
    }

    private void read() {
        check.part("promise 3, read");
        Tested x = new Tested();
        x.write(1, 4, 40);
        x.flush(1);
        check.due("a written block", x.read(1, 4), 40);
        x.write(1, 4, 41);
        check.due("a page before its place", x.read(1, 4), 41);
        x.crash();
        check.due("the place when the page is gone", x.read(1, 4), 40);
        x.punch(1, 4, 1);
        check.due("a hole", x.read(1, 4), 0);
        check.due("preallocate(2, 9, 1)", x.preallocate(2, 9, 1), 1);
        check.due("the place of an unwritten block", x.owner(0), 129);
        check.due("its old value", x.value(0), 40);
        check.due("an unwritten block", x.read(2, 9), 0);
        x.write(2, 9, 5);
        check.due("an unwritten block's page", x.read(2, 9), 5);
        x.write(2, 59, 6);
        check.due("the last block", x.read(2, 59), 6);
        for (int file : NO_FILES) {
            check.refused("read(" + file + ", 0)", x, INDEX, y -> y.read(file, 0));
        }
        for (int block : NO_BLOCKS) {
            check.refused("read(0, " + block + ")", x, INDEX, y -> y.read(0, block));
        }
    }

    private void preallocate() {
        check.part("promise 4, preallocate");
        Tested x = new Tested();
        check.due("preallocate(3, 50, 10)", x.preallocate(3, 50, 10), 10);
        check.due("size", x.about(3, 0), 0);
        check.due("extents", Check.extents(x, 3), "50@0x8u 58@8x2u");
        check.due("preallocate of mapped ones", x.preallocate(3, 50, 10), 0);
        check.due("preallocate(3, 48, 4)", x.preallocate(3, 48, 4), 2);
        check.due("extents", Check.extents(x, 3), "48@10x2u 50@0x8u 58@8x2u");
        check.due("preallocate(3, 59, 1)", x.preallocate(3, 59, 1), 0);
        for (int file : NO_FILES) {
            check.refused("preallocate(" + file + ", 0, 0)", x, INDEX, y -> y.preallocate(file, 0, 0));
        }
        for (int block : NO_BLOCKS) {
            check.refused("preallocate(0, " + block + ", 1)", x, INDEX, y -> y.preallocate(0, block, 1));
            check.refused("preallocate(0, " + block + ", 0)", x, INDEX, y -> y.preallocate(0, block, 0));
        }
        for (int n : new int[] {0, -1, MIN, 51, 61, MAX}) {
            check.refused("preallocate(0, 10, " + n + ")", x, ARGUMENT, y -> y.preallocate(0, 10, n));
        }
        check.refused("preallocate(0, 59, 2)", x, ARGUMENT, y -> y.preallocate(0, 59, 2));
        check.due("preallocate(0, 10, 50)", x.preallocate(0, 10, 50), 50);
    }

    private void preallocateOverPages() {
        check.part("promise 4, preallocate of blocks with pages");
        Tested x = new Tested();
        x.write(0, 2, 22);
        x.write(0, 4, 44);
        x.flush(0);
        x.write(0, 5, 55);
        x.write(0, 4, 45);
        // The rows are 0 and 1, then 3, then 5 to 7; behind the places of 2 and 4 all is taken.
        check.due("preallocate(0, 0, 8)", x.preallocate(0, 0, 8), 6);
        check.due("extents", Check.extents(x, 0), "0@2x2u 2@0x1 3@4x1u 4@1x1 5@5x3u");
        check.due("pages", x.about(0, 4), 2);
        check.due("read of the page", x.read(0, 5), 55);
        check.due("size", x.about(0, 0), 6);
        check.due("reserved for the page in an unwritten block", x.about(0, 5), 0);
        check.due("flush(0)", x.flush(0), 2);
        check.due("extents", Check.extents(x, 0), "0@2x2u 2@0x1 3@4x1u 4@1x1 5@5x1 6@6x2u");
        check.due("values", x.value(5) + " " + x.value(1), "55 45");
    }

    private void preallocateWithoutRoom() {
        check.part("promise 4, preallocate without room");
        Tested x = new Tested();
        x.preallocate(0, 0, 60);
        check.due("free()", x.free(), 18);
        x.write(1, 59, 7);
        check.due("reserved()", x.reserved(), 1);
        check.refused("preallocate(2, 0, 18)", x, ROOM, y -> y.preallocate(2, 0, 18));
        check.refused("preallocate(2, 43, 18)", x, ARGUMENT, y -> y.preallocate(2, 43, 18));
        check.refused("preallocate(4, 0, 18)", x, INDEX, y -> y.preallocate(4, 0, 18));
        check.due("preallocate that leaves just as many", x.preallocate(2, 0, 17), 17);
        check.due("free()", x.free(), 1);
        check.refused("preallocate(3, 0, 1)", x, ROOM, y -> y.preallocate(3, 0, 1));
        check.due("preallocate without a hole", x.preallocate(2, 0, 17), 0);
        check.due("preallocate of the hole with the page", x.preallocate(1, 59, 1), 1);
        check.due("free()", x.free(), 0);
        check.due("reserved()", x.reserved(), 0);
        check.due("flush(1)", x.flush(1), 1);
        check.due("read(1, 59)", x.read(1, 59), 7);
    }

    private void preallocateWithoutPlaces() {
        check.part("promise 4, preallocate of more holes than places");
        Tested x = new Tested();
        x.preallocate(0, 0, 60);
        check.refused("preallocate(1, 0, 60)", x, ROOM, y -> y.preallocate(1, 0, 60));
        check.refused("preallocate(1, 0, 21)", x, ROOM, y -> y.preallocate(1, 0, 21));
        check.refused("preallocate(1, 0, 20)", x, ROOM, y -> y.preallocate(1, 0, 20));
        check.due("preallocate(1, 0, 18)", x.preallocate(1, 0, 18), 18);
    }

    private void preallocateWithoutRoomForTree() {
        check.part("promise 4, preallocate without room for the tree");
        Tested x = new Tested();
        // Three files of 3 extents each: one more in any of them costs a tree block too.
        x.preallocate(0, 0, 24);
        x.preallocate(1, 0, 24);
        x.preallocate(2, 0, 24);
        check.due("free()", x.free(), 8);
        x.preallocate(3, 10, 6);
        check.due("free()", x.free(), 2);
        check.due("preallocate(0, 30, 1)", x.preallocate(0, 30, 1), 1);
        check.due("free()", x.free(), 0);
        check.due("punch(0, 30, 1)", x.punch(0, 30, 1), 1);
        check.due("preallocate(3, 16, 1)", x.preallocate(3, 16, 1), 1);
        check.due("free()", x.free(), 1);
        check.refused("preallocate(0, 30, 1)", x, ROOM, y -> y.preallocate(0, 30, 1));
        check.due("preallocate(3, 17, 1)", x.preallocate(3, 17, 1), 1);
        check.due("free()", x.free(), 0);
    }

    private void mapBehindTheBlockBefore() {
        check.part("to map, behind the block before");
        Tested x = new Tested();
        x.preallocate(0, 0, 5);
        x.preallocate(1, 0, 5);
        x.punch(0, 2, 3);
        // Behind block 1's place there are three: the other two blocks of the row go elsewhere.
        check.due("preallocate(0, 2, 5)", x.preallocate(0, 2, 5), 5);
        check.due("extents", Check.extents(x, 0), "0@0x5u 5@10x2u");
        x.punch(1, 4, 1);
        // The place behind 1's block 3 is a short row; it is taken all the same, before a row that fits.
        check.due("preallocate(1, 4, 3)", x.preallocate(1, 4, 3), 3);
        check.due("extents", Check.extents(x, 1), "0@5x5u 5@12x2u");
        // Block a - 1 may be written or not; a hole before the row does not count.
        x.write(2, 8, 1);
        x.flush(2);
        x.write(2, 9, 2);
        x.write(2, 11, 3);
        x.flush(2);
        check.due("extents", Check.extents(x, 2), "8@14x2 11@16x1");
        // Block 0 has no block before it, not even the last block of the file before.
        x.preallocate(2, 59, 1);
        x.preallocate(3, 10, 1);
        x.punch(0, 0, 1);
        check.due("owner(17)", x.owner(17), 179);
        x.punch(3, 10, 1);
        x.preallocate(3, 0, 1);
        check.due("extents", Check.extents(x, 3), "0@0x1u");
    }

    private void mapBehindBlock0() {
        check.part("to map, behind block 0");
        Tested x = new Tested();
        x.preallocate(0, 0, 6);
        x.punch(0, 1, 2);
        x.punch(0, 4, 1);
        // Place 4 is a shorter row, but place 1 is behind block 0's.
        check.due("preallocate(0, 1, 1)", x.preallocate(0, 1, 1), 1);
        check.due("extents", Check.extents(x, 0), "0@0x2u 3@3x1u 5@5x1u");
    }

    private void mapToTheShortestThatFits() {
        check.part("to map, the shortest row that fits");
        Tested x = new Tested();
        x.preallocate(0, 0, 40);
        x.punch(0, 2, 4);
        x.punch(0, 10, 2);
        x.punch(0, 20, 3);
        x.punch(0, 30, 2);
        x.punch(0, 35, 3);
        check.due("preallocate(1, 0, 2)", x.preallocate(1, 0, 2), 2);
        check.due("the lowest of two rows of two", Check.extents(x, 1), "0@10x2u");
        check.due("preallocate(1, 10, 3)", x.preallocate(1, 10, 3), 3);
        check.due("the lowest of two rows of three", Check.extents(x, 1), "0@10x2u 10@20x3u");
        check.due("preallocate(1, 20, 1)", x.preallocate(1, 20, 1), 1);
        check.due("a part of the shortest row", Check.extents(x, 1), "0@10x2u 10@20x3u 20@30x1u");
        check.due("preallocate(1, 30, 4)", x.preallocate(1, 30, 4), 4);
        check.due("a row before a shorter one", Check.extents(x, 1), "0@10x2u 10@20x3u 20@30x1u 30@2x4u");
        check.due("preallocate(1, 40, 4)", x.preallocate(1, 40, 4), 4);
        check.due("the row at the end", Check.extent(x, 1, 4), "40@40x4u");
    }

    private void mapToTheLongestWhenNoneFits() {
        check.part("to map, the longest row when none fits");
        Tested x = new Tested();
        x.preallocate(0, 0, 60);
        x.preallocate(1, 0, 14);
        x.punch(0, 2, 2);
        x.punch(0, 10, 5);
        x.punch(0, 20, 7);
        x.punch(0, 40, 7);
        check.due("owner(73)", x.owner(73), 73);
        check.due("owner(74)", x.owner(74), -1);
        // Rows of 2, 5, 7, 7 and 6 places for 20: 7 and 7 are taken whole, then 6 fit in 6.
        check.due("preallocate(2, 0, 20)", x.preallocate(2, 0, 20), 20);
        check.due("extents", Check.extents(x, 2), "0@20x7u 7@40x7u 14@74x6u");
        x.punch(1, 6, 8);
        // Rows of 2, 5 and 8 places for 12: 8 are taken whole, then 4 fit in 5.
        check.due("preallocate(3, 0, 12)", x.preallocate(3, 0, 12), 12);
        check.due("extents", Check.extents(x, 3), "0@66x8u 8@10x4u");
    }

    private void mapAtTheEndOfTheVolume() {
        check.part("to map, at the end of the volume");
        Tested x = new Tested();
        x.preallocate(0, 0, 60);
        x.preallocate(1, 0, 18);
        x.punch(0, 50, 10);
        x.preallocate(1, 18, 4);
        // Behind place 77 there are two and then the end: the other two blocks go elsewhere.
        check.due("extents", Check.extents(x, 1), "0@60x8u 8@68x8u 16@76x4u 20@50x2u");
        check.due("owner(79)", x.owner(79), 79);
        x.punch(1, 18, 3);
        check.due("preallocate(1, 17, 2)", x.preallocate(1, 17, 2), 1);
        check.due("owner(78)", x.owner(78), 78);
        check.due("owner(79)", x.owner(79), -1);
        x.preallocate(1, 19, 1);
        x.punch(0, 0, 1);
        x.punch(1, 20, 1);
        // Behind the last place there is none.
        check.due("preallocate(1, 20, 1)", x.preallocate(1, 20, 1), 1);
        check.due("owner(0)", x.owner(0), 80);
    }

    private void punch() {
        check.part("promise 5, punch");
        Tested x = new Tested();
        for (int b = 0; b < 6; b++) {
            x.write(0, b, 10 + b);
        }
        x.flush(0);
        x.write(0, 2, 99);
        x.write(0, 7, 98);
        check.due("punch(0, 2, 2)", x.punch(0, 2, 2), 2);
        check.due("extents", Check.extents(x, 0), "0@0x2 4@4x2");
        check.due("reads", x.read(0, 2) + " " + x.read(0, 3) + " " + x.read(0, 4), "0 0 14");
        check.due("pages", x.about(0, 4), 1);
        check.due("owner(2)", x.owner(2), -1);
        check.due("value(2) stays", x.value(2), 12);
        check.due("punch of a hole with a page", x.punch(0, 7, 1), 0);
        check.due("its page", x.about(0, 4), 0);
        check.due("size stays", x.about(0, 0), 8);
        check.due("punch(0, 0, 60)", x.punch(0, 0, 60), 4);
        check.due("size stays", x.about(0, 0), 8);
        check.due("free()", x.free(), 80);
        x.preallocate(0, 0, 1);
        check.due("a block punched and had again is unwritten", Check.extents(x, 0), "0@0x1u");
        check.due("read(0, 0)", x.read(0, 0), 0);
        x.preallocate(0, 59, 1);
        check.due("punch(0, 59, 1)", x.punch(0, 59, 1), 1);
        for (int file : NO_FILES) {
            check.refused("punch(" + file + ", 0, 0)", x, INDEX, y -> y.punch(file, 0, 0));
        }
        for (int block : NO_BLOCKS) {
            check.refused("punch(0, " + block + ", 0)", x, INDEX, y -> y.punch(0, block, 0));
        }
        for (int n : new int[] {0, -1, MIN, 61, MAX}) {
            check.refused("punch(0, 0, " + n + ")", x, ARGUMENT, y -> y.punch(0, 0, n));
        }
        check.refused("punch(0, 59, 2)", x, ARGUMENT, y -> y.punch(0, 59, 2));
    }

    private void punchInAFullVolume() {
        check.part("promise 5, punch when nothing is free");
        Tested x = new Tested();
        x.preallocate(0, 0, 60);
        x.preallocate(1, 0, 18);
        check.due("free()", x.free(), 0);
        // The place given back goes to the tree: there were 8 extents, and now there are 9.
        check.due("punch(0, 1, 1)", x.punch(0, 1, 1), 1);
        check.due("extents", x.about(0, 2), 9);
        check.due("free()", x.free(), 0);
        check.due("punch(0, 10, 1)", x.punch(0, 10, 1), 1);
        check.due("extents", x.about(0, 2), 9);
        check.due("free()", x.free(), 1);
    }

    private void truncate() {
        check.part("promise 6, truncate");
        Tested x = new Tested();
        for (int b = 0; b < 6; b++) {
            x.write(0, b, 10 + b);
        }
        x.flush(0);
        x.write(0, 4, 99);
        x.write(0, 9, 98);
        x.preallocate(0, 30, 3);
        check.due("truncate(0, 4)", x.truncate(0, 4), 5);
        check.due("size", x.about(0, 0), 4);
        check.due("pages", x.about(0, 4), 0);
        check.due("extents", Check.extents(x, 0), "0@0x4");
        check.due("reads", x.read(0, 3) + " " + x.read(0, 4) + " " + x.read(0, 9), "13 0 0");
        x.preallocate(0, 30, 3);
        check.due("truncate to more", x.truncate(0, 31), 2);
        check.due("size", x.about(0, 0), 31);
        check.due("mapped", x.about(0, 1), 5);
        x.preallocate(0, 59, 1);
        check.due("truncate(0, 60)", x.truncate(0, 60), 0);
        check.due("size", x.about(0, 0), 60);
        check.due("mapped", x.about(0, 1), 6);
        x.write(1, 0, 1);
        check.due("truncate(0, 0)", x.truncate(0, 0), 6);
        check.due("size", x.about(0, 0), 0);
        check.due("free()", x.free(), 80);
        check.due("the other file's pages", x.about(1, 4), 1);
        for (int file : NO_FILES) {
            check.refused("truncate(" + file + ", 61)", x, INDEX, y -> y.truncate(file, 61));
        }
        for (int size : new int[] {-1, 61, MIN, MAX}) {
            check.refused("truncate(1, " + size + ")", x, ARGUMENT, y -> y.truncate(1, size));
        }
    }

    private void flush() {
        check.part("promise 7, flush");
        Tested x = new Tested();
        x.write(0, 8, 8);
        x.write(0, 9, 9);
        x.write(1, 0, 100);
        x.preallocate(0, 20, 3);
        x.write(0, 21, 21);
        check.due("flush(0)", x.flush(0), 3);
        check.due("extents", Check.extents(x, 0), "8@3x2 20@0x1u 21@1x1 22@2x1u");
        check.due("values", x.value(3) + " " + x.value(4) + " " + x.value(1), "8 9 21");
        check.due("pages", x.about(0, 4), 0);
        check.due("the other file's pages", x.about(1, 4), 1);
        check.due("the other file's mapped", x.about(1, 1), 0);
        check.due("flush again", x.flush(0), 0);
        x.write(0, 8, 80);
        check.due("flush of a written block", x.flush(0), 1);
        check.due("its place stays", Check.extent(x, 0, 0), "8@3x2");
        check.due("its value", x.value(3), 80);
        check.due("read(0, 8)", x.read(0, 8), 80);
        check.due("size", x.about(0, 0), 22);
        check.due("crash()", x.crash(), 1);
        check.due("flushed ones stay", x.read(0, 9), 9);
        for (int file : NO_FILES) {
            check.refused("flush(" + file + ")", x, INDEX, y -> y.flush(file));
        }
    }

    private void flushRowsFromTheLowest() {
        check.part("promise 7, flush of several rows");
        Tested x = new Tested();
        x.preallocate(3, 0, 20);
        x.punch(3, 5, 2);
        x.punch(3, 10, 3);
        x.write(0, 50, 5);
        x.write(0, 10, 1);
        x.write(0, 12, 3);
        x.write(0, 11, 2);
        x.write(0, 51, 6);
        x.write(0, 30, 4);
        check.due("flush(0)", x.flush(0), 6);
        check.due("extents", Check.extents(x, 0), "10@10x3 30@5x1 50@20x2");
        // A hole without a page parts two rows, and stays a hole.
        x.write(0, 40, 7);
        x.write(0, 42, 8);
        x.flush(0);
        check.due("extents", Check.extents(x, 0), "10@10x3 30@5x1 40@6x1 42@22x1 50@20x2");
    }

    private void crash() {
        check.part("promise 8, crash");
        Tested x = new Tested();
        check.due("crash() without pages", x.crash(), 0);
        x.write(0, 0, 1);
        x.flush(0);
        for (int f = 0; f < 4; f++) {
            x.write(f, 0, 50 + f);
            x.write(f, 59, 60 + f);
        }
        x.preallocate(1, 0, 1);
        check.due("crash()", x.crash(), 8);
        check.due("reads", x.read(0, 0) + " " + x.read(0, 59) + " " + x.read(1, 0) + " " + x.read(3, 0), "1 0 0 0");
        for (int f = 0; f < 4; f++) {
            check.due("pages of " + f, x.about(f, 4), 0);
            check.due("size of " + f, x.about(f, 0), 60);
        }
        check.due("reserved()", x.reserved(), 0);
        check.due("mapped of 1", x.about(1, 1), 1);
        check.due("crash() again", x.crash(), 0);
        check.due("flush(0) behind it", x.flush(0), 0);
    }

    private void extent() {
        check.part("promise 9, extent");
        Tested x = new Tested();
        check.refused("extent(0, 0, 0) of an empty file", x, INDEX, y -> y.extent(0, 0, 0));
        x.preallocate(2, 0, 1);
        x.write(0, 5, 1);
        x.write(0, 6, 1);
        x.flush(0);
        x.preallocate(0, 7, 2);
        x.preallocate(0, 20, 1);
        // Written and unwritten blocks are apart even where their places are one behind the other.
        check.due("extent 0", x.extent(0, 0, 0) + " " + x.extent(0, 0, 1) + " " + x.extent(0, 0, 2) + " " + x.extent(0, 0, 3), "5 1 2 0");
        check.due("extent 1", x.extent(0, 1, 0) + " " + x.extent(0, 1, 1) + " " + x.extent(0, 1, 2) + " " + x.extent(0, 1, 3), "7 3 2 1");
        // Places one behind the other do not join blocks that are not.
        check.due("extent 2", x.extent(0, 2, 0) + " " + x.extent(0, 2, 1) + " " + x.extent(0, 2, 2) + " " + x.extent(0, 2, 3), "20 5 1 1");
        // Blocks one behind the other do not join places that are not.
        x.preallocate(2, 10, 1);
        x.preallocate(0, 21, 1);
        check.due("extents", Check.extents(x, 0), "5@1x2 7@3x2u 20@5x1u 21@7x1u");
        x.write(0, 20, 3);
        check.due("a page changes no extent", x.extent(0, 2, 3), 1);
        for (int file : NO_FILES) {
            check.refused("extent(" + file + ", 0, 4)", x, INDEX, y -> y.extent(file, 0, 4));
        }
        for (int k : new int[] {-1, 4, MIN, MAX}) {
            check.refused("extent(0, " + k + ", 0)", x, INDEX, y -> y.extent(0, k, 0));
            check.refused("extent(0, " + k + ", 4)", x, INDEX, y -> y.extent(0, k, 4));
        }
        for (int what : new int[] {-1, 4, MIN, MAX}) {
            check.refused("extent(0, 0, " + what + ")", x, ARGUMENT, y -> y.extent(0, 0, what));
        }
    }

    private void extentsOfEight() {
        check.part("promise 9, extents of eight blocks");
        Tested x = new Tested();
        x.preallocate(0, 3, 8);
        check.due("a row of 8", Check.extents(x, 0), "3@0x8u");
        x.preallocate(0, 11, 1);
        check.due("a row of 9", Check.extents(x, 0), "3@0x8u 11@8x1u");
        x.preallocate(0, 12, 12);
        check.due("a row of 21", Check.extents(x, 0), "3@0x8u 11@8x8u 19@16x5u");
        x.punch(0, 4, 1);
        check.due("the eights begin anew behind a hole", Check.extents(x, 0), "3@0x1u 5@2x8u 13@10x8u 21@18x3u");
        x.write(0, 10, 1);
        x.flush(0);
        check.due("and behind a written block", Check.extents(x, 0), "3@0x1u 5@2x5u 10@7x1 11@8x8u 19@16x5u");
    }

    private void about() {
        check.part("promise 10, about");
        Tested x = new Tested();
        x.preallocate(1, 0, 30);
        x.write(1, 4, 1);
        x.write(1, 40, 1);
        x.write(1, 45, 1);
        // 4 extents and 1 of the tree; 4 + 2 + 2 extents would have 2 of it, so 1 is reserved besides 2 holes.
        int[] want = {46, 30, 4, 1, 3, 3};
        for (int what = 0; what <= 5; what++) {
            check.due("about(1, " + what + ")", x.about(1, what), want[what]);
            check.due("about(0, " + what + ")", x.about(0, what), 0);
        }
        for (int file : NO_FILES) {
            check.refused("about(" + file + ", 6)", x, INDEX, y -> y.about(file, 6));
        }
        for (int what : new int[] {-1, 6, MIN, MAX}) {
            check.refused("about(1, " + what + ")", x, ARGUMENT, y -> y.about(1, what));
        }
    }

    private void treeBlocks() {
        check.part("promise 10, tree blocks");
        Tested x = new Tested();
        int[] want = {0, 0, 0, 0, 1, 2, 2, 2, 2, 3, 3, 3, 3, 4};
        for (int e = 0; e < want.length; e++) {
            check.due("extents", x.about(0, 2), e);
            check.due("tree blocks of " + e, x.about(0, 3), want[e]);
            check.due("free()", x.free(), 80 - e - want[e]);
            x.preallocate(0, 3 * e, 1);
        }
    }

    private void free() {
        check.part("promise 11, free");
        Tested x = new Tested();
        x.write(0, 0, 1);
        check.due("free() with a page", x.free(), 80);
        x.flush(0);
        check.due("free() with a written block", x.free(), 79);
        x.preallocate(3, 0, 30);
        check.due("free() with 30 more and a tree", x.free(), 48);
        x.preallocate(2, 0, 30);
        check.due("free() with 30 more and a tree", x.free(), 17);
        x.punch(3, 24, 1);
        check.due("free() with one back", x.free(), 18);
        x.punch(3, 4, 1);
        check.due("free() with one back and a tree block more", x.free(), 18);
        x.truncate(2, 0);
        check.due("free() with a file back", x.free(), 49);
    }

    private void reserved() {
        check.part("promise 12, reserved");
        Tested x = new Tested();
        int[] want = {1, 2, 3, 5, 7, 8, 9, 10, 12};
        for (int h = 1; h <= want.length; h++) {
            x.write(0, h, 1);
            check.due("reserved() with " + h + " holes", x.reserved(), want[h - 1]);
        }
        x.write(2, 9, 1);
        check.due("reserved() of two files", x.reserved(), 13);
        x.crash();
        check.due("reserved() behind a crash", x.reserved(), 0);
        x.preallocate(0, 0, 10);
        x.write(0, 3, 1);
        // 2 extents and 2 more would have a tree block, where there is none.
        check.due("reserved() for an unwritten block's page", x.reserved(), 1);
        x.write(0, 4, 1);
        check.due("reserved() for two", x.reserved(), 2);
        x.write(0, 50, 1);
        check.due("reserved() for two and a hole", x.reserved(), 3);
        x.flush(0);
        check.due("reserved() behind a flush", x.reserved(), 0);
        x.write(0, 3, 2);
        check.due("reserved() for a written block's page", x.reserved(), 0);
    }

    private void owner() {
        check.part("promise 13, owner");
        Tested x = new Tested();
        x.write(3, 59, 1);
        check.due("owner(0) before the flush", x.owner(0), DelayedExtents.NONE);
        x.flush(3);
        check.due("owner(0)", x.owner(0), 239);
        x.preallocate(0, 0, 59);
        check.due("owner(1)", x.owner(1), 0);
        check.due("owner(59)", x.owner(59), 58);
        x.preallocate(1, 30, 18);
        check.due("owner(60)", x.owner(60), 90);
        check.due("owner(79)", x.owner(79), DelayedExtents.NONE);
        x.punch(0, 0, 1);
        check.due("owner(1)", x.owner(1), DelayedExtents.NONE);
        x.truncate(3, 0);
        check.due("owner(0)", x.owner(0), DelayedExtents.NONE);
        for (int place : NO_PLACES) {
            check.refused("owner(" + place + ")", x, INDEX, y -> y.owner(place));
        }
    }

    private void value() {
        check.part("promise 14, value");
        Tested x = new Tested();
        x.write(0, 0, MIN);
        check.due("value(0) before the flush", x.value(0), 0);
        x.flush(0);
        check.due("value(0)", x.value(0), MIN);
        x.write(0, 0, 5);
        check.due("value(0) with a page", x.value(0), MIN);
        x.crash();
        check.due("value(0) behind a crash", x.value(0), MIN);
        x.truncate(0, 0);
        check.due("value(0) behind a truncate", x.value(0), MIN);
        x.preallocate(1, 0, 60);
        check.due("value(0) behind a preallocate", x.value(0), MIN);
        x.preallocate(2, 0, 10);
        x.write(2, 9, 3);
        x.flush(2);
        check.due("value(69)", x.value(69), 3);
        check.due("value(79)", x.value(79), 0);
        for (int place : NO_PLACES) {
            check.refused("value(" + place + ")", x, INDEX, y -> y.value(place));
        }
    }
}
