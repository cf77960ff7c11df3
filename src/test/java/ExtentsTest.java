/** "Terms", second part: what is an extent, and when a file has tree blocks. */
public final class ExtentsTest {
    private final Check check = new Check();

    public static void main(String[] args) {
        ExtentsTest t = new ExtentsTest();
        t.noExtents();
        t.longestRows();
        t.blocksOneBehindTheOther();
        t.placesOneBehindTheOther();
        t.placesThatGoDown();
        t.ofOneFile();
        t.allWrittenOrAllUnwritten();
        t.rowsOfUpToSixty();
        t.rowsOfWrittenBlocks();
        t.eightsBeginWithTheRow();
        t.eightsMoveWithTheRow();
        t.noTreeBlocks();
        t.treeBlocksRoundedUp();
        t.treeBlocksOfSixtyExtents();
        t.treeBlocksOfEachFile();
        t.treeBlocksHaveNoPlaces();
        t.check.end();
    }

    private void extentsAre(String when, Tested x, int file, String want) {
        check.due("extents " + when, Check.extents(x, file), want);
    }

    private void noExtents() {
        check.part("EXTENTS of a file without mapped blocks");
        Tested x = new Tested();
        x.write(0, 0, 1);
        x.truncate(1, 60);
        check.due("extents of a file of pages", x.about(0, 2), 0);
        check.due("extents of a file of holes", x.about(1, 2), 0);
        check.due("tree blocks", x.about(0, 3), 0);
        check.refused("extent(0, 0, 0)", x, Check.INDEX, y -> y.extent(0, 0, 0));
        check.refused("extent(1, 0, 0)", x, Check.INDEX, y -> y.extent(1, 0, 0));
    }

    private void longestRows() {
        check.part("EXTENTS of a file are the longest rows of its blocks");
        Tested x = new Tested();
        // One block at a time comes to the same extent as all of them at once.
        for (int b = 0; b < 5; b++) {
            x.preallocate(0, b, 1);
            extentsAre("of " + (b + 1), x, 0, "0@0x" + (b + 1) + "u");
        }
        x.punch(0, 2, 1);
        extentsAre("with a hole", x, 0, "0@0x2u 3@3x2u");
        x.preallocate(0, 2, 1);
        extentsAre("joined again", x, 0, "0@0x5u");
    }

    private void blocksOneBehindTheOther() {
        check.part("of its blocks, one behind the other");
        Tested x = new Tested();
        x.preallocate(0, 10, 1);
        x.preallocate(0, 12, 1);
        x.preallocate(0, 5, 1);
        extentsAre("at places in a row", x, 0, "5@2x1u 10@0x1u 12@1x1u");
        x.preallocate(0, 59, 1);
        extentsAre("with the last block", x, 0, "5@2x1u 10@0x1u 12@1x1u 59@3x1u");
    }

    private void placesOneBehindTheOther() {
        check.part("that are mapped to places one behind the other");
        Tested x = new Tested();
        x.preallocate(0, 0, 2);
        x.preallocate(1, 0, 1);
        x.preallocate(0, 2, 2);
        extentsAre("with a place of another file between", x, 0, "0@0x2u 2@3x2u");
        x.punch(1, 0, 1);
        extentsAre("with a place between that is not taken", x, 0, "0@0x2u 2@3x2u");
    }

    private void placesThatGoDown() {
        check.part("places one behind the other, not one before the other");
        Tested x = new Tested();
        x.preallocate(1, 0, 1);
        x.preallocate(0, 0, 1);
        x.preallocate(1, 10, 1);
        x.punch(1, 0, 1);
        x.preallocate(0, 1, 1);
        extentsAre("at places 1 and 0", x, 0, "0@1x1u 1@0x1u");
    }

    private void ofOneFile() {
        check.part("EXTENTS of a file, not of two");
        Tested x = new Tested();
        x.preallocate(0, 58, 2);
        x.preallocate(1, 0, 2);
        extentsAre("of the first", x, 0, "58@0x2u");
        extentsAre("of the second", x, 1, "0@2x2u");
        check.due("extents of the third", x.about(2, 2), 0);
    }

    private void allWrittenOrAllUnwritten() {
        check.part("all written or all unwritten");
        Tested x = new Tested();
        x.preallocate(0, 0, 5);
        x.write(0, 2, 0);
        extentsAre("with a page", x, 0, "0@0x5u");
        x.flush(0);
        extentsAre("with one written", x, 0, "0@0x2u 2@2x1 3@3x2u");
        x.write(0, 1, 0);
        x.flush(0);
        extentsAre("with two written", x, 0, "0@0x1u 1@1x2 3@3x2u");
        x.write(0, 0, 0);
        x.write(0, 4, 0);
        x.flush(0);
        extentsAre("with one unwritten", x, 0, "0@0x3 3@3x1u 4@4x1");
        x.write(0, 3, 0);
        x.flush(0);
        extentsAre("with all written", x, 0, "0@0x5");
    }

    private void rowsOfUpToSixty() {
        check.part("of a row of more than 8 blocks the first 8 are an extent, the next 8, and so on");
        for (int n = 1; n <= 60; n++) {
            Tested x = new Tested();
            x.preallocate(0, 60 - n, n);
            StringBuilder want = new StringBuilder();
            int left = n;
            for (int i = 0; left > 0; i += 8) {
                int length = left > 8 ? 8 : left;
                want.append(i == 0 ? "" : " ").append(60 - n + i).append('@').append(i).append('x').append(length).append('u');
                left -= length;
            }
            extentsAre("of a row of " + n, x, 0, want.toString());
        }
    }

    private void rowsOfWrittenBlocks() {
        check.part("of a row of more than 8 written blocks");
        String[] want = {"0@0x7", "0@0x8", "0@0x8 8@8x1", "0@0x8 8@8x7", "0@0x8 8@8x8", "0@0x8 8@8x8 16@16x1"};
        int[] lengths = {7, 8, 9, 15, 16, 17};
        for (int i = 0; i < lengths.length; i++) {
            Tested x = new Tested();
            for (int b = 0; b < lengths[i]; b++) {
                x.write(0, b, 1);
            }
            x.flush(0);
            extentsAre("of a row of " + lengths[i], x, 0, want[i]);
        }
    }

    private void eightsBeginWithTheRow() {
        check.part("the first 8 of a row, wherever it begins");
        Tested x = new Tested();
        x.preallocate(1, 0, 3);
        x.preallocate(0, 5, 9);
        extentsAre("from block 5 and place 3 on", x, 0, "5@3x8u 13@11x1u");
        x.preallocate(0, 20, 9);
        extentsAre("of two rows", x, 0, "5@3x8u 13@11x1u 20@12x8u 28@20x1u");
    }

    private void eightsMoveWithTheRow() {
        check.part("the first 8 of a row that changes");
        Tested x = new Tested();
        x.preallocate(0, 0, 24);
        extentsAre("at first", x, 0, "0@0x8u 8@8x8u 16@16x8u");
        x.punch(0, 0, 1);
        extentsAre("without the first", x, 0, "1@1x8u 9@9x8u 17@17x7u");
        x.write(0, 9, 1);
        x.flush(0);
        extentsAre("with one written", x, 0, "1@1x8u 9@9x1 10@10x8u 18@18x6u");
        x.punch(0, 8, 1);
        extentsAre("without one more", x, 0, "1@1x7u 9@9x1 10@10x8u 18@18x6u");
        x.truncate(0, 18);
        extentsAre("without the last", x, 0, "1@1x7u 9@9x1 10@10x8u");
    }

    /** A file with as many extents as are wanted, each of one block. */
    private Tested withExtents(int e) {
        Tested x = new Tested();
        for (int k = 0; k < e; k++) {
            x.preallocate(0, 2 * k, 1);
        }
        return x;
    }

    private void noTreeBlocks() {
        check.part("TREE blocks: none when e is at most 3");
        for (int e = 0; e <= 3; e++) {
            Tested x = withExtents(e);
            check.due("extents", x.about(0, 2), e);
            check.due("tree blocks of " + e, x.about(0, 3), 0);
            check.due("free() with " + e, x.free(), 80 - e);
        }
    }

    private void treeBlocksRoundedUp() {
        check.part("TREE blocks: otherwise e / 4, rounded up");
        int[] want = {1, 2, 2, 2, 2, 3, 3, 3, 3, 4, 4, 4, 4, 5, 5, 5, 5, 6, 6, 6, 6, 7, 7, 7, 7, 8, 8};
        for (int i = 0; i < want.length; i++) {
            int e = 4 + i;
            Tested x = withExtents(e);
            check.due("extents", x.about(0, 2), e);
            check.due("tree blocks of " + e, x.about(0, 3), want[i]);
            check.due("free() with " + e, x.free(), 80 - e - want[i]);
            x.truncate(0, 1);
            check.due("tree blocks when all but one are gone", x.about(0, 3), 0);
        }
    }

    private void treeBlocksOfSixtyExtents() {
        check.part("TREE blocks: up to 60 extents");
        Tested x = new Tested();
        x.preallocate(0, 0, 60);
        check.due("extents", x.about(0, 2), 8);
        // Every second block is written: 2 extents of one block for each, and the eights of the rest.
        int[] rest = {8, 7, 7, 7, 7, 6, 6, 6, 6, 5, 5, 5, 5, 4, 4, 4, 4, 3, 3, 3, 3, 2, 2, 2, 2, 1, 1, 1, 1, 0};
        for (int i = 1; i <= 30; i++) {
            x.write(0, 2 * i - 1, 1);
            x.flush(0);
            int e = 2 * i + rest[i - 1];
            check.due("extents with " + i + " written", x.about(0, 2), e);
            check.due("tree blocks with " + i + " written", x.about(0, 3), (e + 3) / 4);
            check.due("free() with " + i + " written", x.free(), 20 - (e + 3) / 4);
        }
        check.due("tree blocks of 60", x.about(0, 3), 15);
        check.due("extent 59", Check.extent(x, 0, 59), "59@59x1");
        check.refused("extent(0, 60, 0)", x, Check.INDEX, y -> y.extent(0, 60, 0));
    }

    private void treeBlocksOfEachFile() {
        check.part("TREE blocks: of each file for itself");
        Tested x = new Tested();
        for (int f = 0; f < 4; f++) {
            for (int k = 0; k < 3; k++) {
                x.preallocate(f, 2 * k, 1);
            }
        }
        check.due("free() with 3 extents in each file", x.free(), 68);
        x.preallocate(2, 6, 1);
        check.due("free() with 4 in one", x.free(), 66);
        x.preallocate(1, 6, 1);
        check.due("free() with 4 in two", x.free(), 64);
        check.due("tree blocks", x.about(0, 3) + " " + x.about(1, 3) + " " + x.about(2, 3) + " " + x.about(3, 3), "0 1 1 0");
    }

    private void treeBlocksHaveNoPlaces() {
        check.part("They are counted, but have no places");
        Tested x = withExtents(20);
        check.due("tree blocks", x.about(0, 3), 5);
        check.due("mapped", x.about(0, 1), 20);
        check.due("free()", x.free(), 55);
        check.due("places not taken", Volumes.untaken(x).size(), 60);
        check.due("the first of them", Volumes.untaken(x).first(), 20);
    }
}
