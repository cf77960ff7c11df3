/** "Terms", fourth part: which places a row of holes gets, and what a flush does. */
public final class MappingTest {
    private final Check check = new Check();

    public static void main(String[] args) {
        MappingTest t = new MappingTest();
        t.behindTheBlockBefore();
        t.behindAWrittenBlock();
        t.asManyAsAreInTheRow();
        t.upToTheFirstThatIsTaken();
        t.upToTheEnd();
        t.placeBehindIsTaken();
        t.placeBehindIsPastTheEnd();
        t.blockBeforeIsAHole();
        t.blockBeforeIsAHoleWithAPage();
        t.noBlockBefore();
        t.blockBehindDoesNotCount();
        t.shortestThatHasAsMany();
        t.lowestOfSeveralShortest();
        t.onlyLongestRowsCount();
        t.rowsAtTheEnds();
        t.longestIfNoneHasSoMany();
        t.lowestOfSeveralLongest();
        t.whatIsLeftIsChosenAnew();
        t.leftFromBehindTheBlockBefore();
        t.wholeVolume();
        t.takenMeansMapped();
        t.preallocateEachRowForItself();
        t.preallocateRowsFromTheLowestOn();
        t.preallocateOnlyItsBlocks();
        t.flushOnlyHolesWithPages();
        t.flushEachRowForItself();
        t.flushRowsFromTheLowestOn();
        t.flushBehindAMappedBlock();
        t.flushWritesAllPages();
        t.flushOfOneFile();
        t.flushWithoutPages();
        t.flushOfAllPages();
        t.check.end();
    }

    private void extentsAre(Tested x, int file, String want) {
        check.due("extents of file " + file, Check.extents(x, file), want);
    }

    /** What file 0's blocks get when so many of them from 0 on are preallocated. */
    private void gets(Tested volume, int blocks, String want) {
        Tested x = volume.again();
        check.due("preallocate(0, 0, " + blocks + ")", x.preallocate(0, 0, blocks), blocks);
        check.due("extents of " + blocks, Check.extents(x, 0), want);
    }

    private void behindTheBlockBefore() {
        check.part("if block a - 1 is mapped, and the place behind that one's is not taken");
        Tested x = Volumes.withRows(10, 6, 30, 2, 50, 2);
        x.preallocate(0, 0, 3);
        extentsAre(x, 0, "0@10x3u");
        // Two rows of two would suit two blocks better, but do not begin behind block 2's place.
        x.preallocate(0, 3, 2);
        extentsAre(x, 0, "0@10x5u");
        x.preallocate(0, 5, 1);
        extentsAre(x, 0, "0@10x6u");
    }

    private void behindAWrittenBlock() {
        check.part("if block a - 1 is mapped, written or not");
        Tested x = Volumes.withRows(10, 6, 30, 2, 50, 4);
        x.preallocate(0, 5, 5);
        x.punch(0, 8, 2);
        extentsAre(x, 0, "5@10x3u");
        x.write(0, 7, 1);
        x.flush(0);
        x.preallocate(0, 8, 1);
        extentsAre(x, 0, "5@10x2u 7@12x1 8@13x1u");
        x.write(0, 9, 1);
        x.flush(0);
        extentsAre(x, 0, "5@10x2u 7@12x1 8@13x1u 9@14x1");
    }

    private void asManyAsAreInTheRow() {
        check.part("as many blocks as are in the row get the places from there on");
        Tested x = Volumes.withRows(10, 5, 30, 7);
        x.preallocate(0, 0, 2);
        extentsAre(x, 0, "0@10x2u");
        Tested fewer = x.again();
        fewer.preallocate(0, 2, 2);
        extentsAre(fewer, 0, "0@10x4u");
        check.due("owner(14)", fewer.owner(14), DelayedExtents.NONE);
        Tested just = x.again();
        just.preallocate(0, 2, 3);
        extentsAre(just, 0, "0@10x5u");
    }

    private void upToTheFirstThatIsTaken() {
        check.part("up to the first that is taken");
        Tested x = Volumes.withRows(10, 5, 30, 7);
        x.preallocate(0, 0, 2);
        Tested oneMore = x.again();
        oneMore.preallocate(0, 2, 4);
        extentsAre(oneMore, 0, "0@10x5u 5@30x1u");
        Tested threeMore = x.again();
        threeMore.preallocate(0, 2, 6);
        extentsAre(threeMore, 0, "0@10x5u 5@30x3u");
        // One place is enough to begin with, though seven places would take the whole row.
        Tested single = Volumes.withRows(10, 2, 30, 7, 50, 3);
        single.preallocate(0, 0, 1);
        extentsAre(single, 0, "0@10x1u");
        single.preallocate(0, 1, 5);
        extentsAre(single, 0, "0@10x2u 2@30x4u");
    }

    private void upToTheEnd() {
        check.part("(or the end)");
        Tested x = Volumes.withRows(10, 4, 30, 6, 77, 3);
        x.preallocate(0, 0, 1);
        extentsAre(x, 0, "0@77x1u");
        Tested just = x.again();
        just.preallocate(0, 1, 2);
        extentsAre(just, 0, "0@77x3u");
        check.due("owner(79)", just.owner(79), 2);
        Tested more = x.again();
        more.preallocate(0, 1, 3);
        extentsAre(more, 0, "0@77x3u 3@10x1u");
        Tested manyMore = x.again();
        manyMore.preallocate(0, 1, 7);
        extentsAre(manyMore, 0, "0@77x3u 3@30x5u");
    }

    private void placeBehindIsTaken() {
        check.part("the place behind block a - 1's is taken");
        Tested x = Volumes.withRows(10, 1, 30, 2, 50, 6);
        x.preallocate(0, 0, 1);
        extentsAre(x, 0, "0@10x1u");
        check.due("owner(11)", x.owner(11), 191);
        x.preallocate(0, 1, 2);
        extentsAre(x, 0, "0@10x1u 1@30x2u");
        // By a block of the same file, too.
        Tested own = new Tested();
        own.preallocate(0, 0, 1);
        own.preallocate(0, 30, 1);
        own.preallocate(0, 1, 1);
        extentsAre(own, 0, "0@0x1u 1@2x1u 30@1x1u");
    }

    private void placeBehindIsPastTheEnd() {
        check.part("the place behind block a - 1's is past the end");
        Tested x = Volumes.withRows(10, 3, 30, 6, 79, 1);
        x.preallocate(0, 0, 1);
        extentsAre(x, 0, "0@79x1u");
        Tested fit = x.again();
        fit.preallocate(0, 1, 2);
        extentsAre(fit, 0, "0@79x1u 1@10x2u");
        // Nothing wraps around to place 0 either, where it is not taken but another row is shorter.
        Tested wrap = Volumes.withRows(0, 3, 30, 2, 50, 5, 79, 1);
        wrap.preallocate(0, 0, 1);
        wrap.preallocate(0, 1, 1);
        extentsAre(wrap, 0, "0@79x1u 1@30x1u");
        x.write(0, 1, 4);
        x.flush(0);
        extentsAre(x, 0, "0@79x1u 1@10x1");
    }

    private void blockBeforeIsAHole() {
        check.part("block a - 1 is a hole");
        Tested x = Volumes.withRows(10, 6, 30, 2, 50, 7);
        x.preallocate(0, 0, 3);
        extentsAre(x, 0, "0@10x3u");
        // Block 2's place does not count for block 4.
        x.preallocate(0, 4, 2);
        extentsAre(x, 0, "0@10x3u 4@30x2u");
        Tested punched = Volumes.withRows(10, 6, 30, 2, 50, 7);
        punched.preallocate(0, 0, 3);
        punched.punch(0, 2, 1);
        // The place that block 2 had is not taken any more, but block 2 is no block before.
        punched.preallocate(0, 3, 2);
        extentsAre(punched, 0, "0@10x2u 3@30x2u");
    }

    private void blockBeforeIsAHoleWithAPage() {
        check.part("block a - 1 is a hole with a page");
        Tested x = Volumes.withRows(10, 6, 30, 2, 50, 7);
        x.preallocate(0, 0, 3);
        x.write(0, 3, 1);
        x.preallocate(0, 4, 2);
        extentsAre(x, 0, "0@10x3u 4@30x2u");
        x.flush(0);
        extentsAre(x, 0, "0@10x3u 3@13x1 4@30x2u");
    }

    private void noBlockBefore() {
        check.part("there is no block a - 1");
        Tested x = Volumes.withRows(10, 6, 30, 2, 50, 7);
        x.preallocate(0, 57, 3);
        extentsAre(x, 0, "57@10x3u");
        // Not even the last block of the file before comes before block 0.
        x.preallocate(1, 0, 1);
        extentsAre(x, 1, "0@30x1u");
        Tested y = Volumes.withRows(10, 6, 30, 2, 50, 7);
        y.preallocate(1, 57, 3);
        y.preallocate(0, 0, 1);
        extentsAre(y, 0, "0@30x1u");
    }

    private void blockBehindDoesNotCount() {
        check.part("beginning with block a: the block behind the row does not count");
        Tested x = Volumes.withRows(10, 6, 30, 2, 50, 7);
        x.preallocate(0, 0, 6);
        x.punch(0, 0, 3);
        extentsAre(x, 0, "3@13x3u");
        // Place 12 is before block 3's, but the row 30 and 31 is the shortest.
        x.preallocate(0, 2, 1);
        extentsAre(x, 0, "2@30x1u 3@13x3u");
    }

    private void shortestThatHasAsMany() {
        check.part("the shortest that has as many as are left");
        Tested just = Volumes.withRows(5, 2, 15, 4, 30, 3, 50, 8);
        gets(just, 1, "0@5x1u");
        gets(just, 2, "0@5x2u");
        gets(just, 3, "0@30x3u");
        gets(just, 4, "0@15x4u");
        gets(just, 5, "0@50x5u");
        gets(just, 8, "0@50x8u");
        Tested longer = Volumes.withRows(5, 2, 15, 7, 30, 6, 50, 5);
        gets(longer, 3, "0@50x3u");
        gets(longer, 5, "0@50x5u");
        gets(longer, 6, "0@30x6u");
        gets(longer, 7, "0@15x7u");
    }

    private void lowestOfSeveralShortest() {
        check.part("the shortest that has as many as are left, the lowest of several");
        Tested same = Volumes.withRows(5, 6, 20, 3, 30, 3, 40, 3);
        gets(same, 1, "0@20x1u");
        gets(same, 2, "0@20x2u");
        gets(same, 3, "0@20x3u");
        gets(same, 4, "0@5x4u");
        Tested lowestFirst = Volumes.withRows(5, 4, 20, 4, 40, 6);
        gets(lowestFirst, 3, "0@5x3u");
        gets(lowestFirst, 4, "0@5x4u");
        gets(lowestFirst, 5, "0@40x5u");
    }

    private void onlyLongestRowsCount() {
        check.part("of all longest rows of places that are not taken");
        // The last four of six places are no row: the row of five is shorter.
        Tested x = Volumes.withRows(10, 6, 30, 5);
        gets(x, 4, "0@30x4u");
        // A row that became longer when its neighbours were given back is one row.
        Tested joined = Volumes.withRows(10, 2, 30, 5, 50, 3);
        joined.punch(3, 12, 2);
        joined.punch(3, 9, 1);
        gets(joined, 2, "0@50x2u");
        gets(joined, 4, "0@9x4u");
        gets(joined, 5, "0@9x5u");
    }

    private void rowsAtTheEnds() {
        check.part("rows of places that begin with place 0 or end with place 79");
        Tested x = Volumes.withRows(0, 3, 30, 5, 77, 3);
        gets(x, 3, "0@0x3u");
        gets(x, 4, "0@30x4u");
        Tested last = Volumes.withRows(0, 5, 30, 4, 77, 3);
        gets(last, 3, "0@77x3u");
        gets(last, 4, "0@30x4u");
        gets(last, 5, "0@0x5u");
        Tested longestAtTheEnd = Volumes.withRows(0, 4, 30, 4, 74, 6);
        gets(longestAtTheEnd, 8, "0@74x6u 6@0x2u");
        Tested longestAtTheBeginning = Volumes.withRows(0, 6, 30, 4, 76, 4);
        gets(longestAtTheBeginning, 8, "0@0x6u 6@30x2u");
    }

    private void longestIfNoneHasSoMany() {
        check.part("if none has so many, the longest one, which is taken whole by the next blocks");
        Tested x = Volumes.withRows(5, 2, 15, 3, 30, 5, 50, 4);
        gets(x, 5, "0@30x5u");
        // One more than the longest has: the last block goes to the shortest.
        gets(x, 6, "0@30x5u 5@5x1u");
        gets(x, 7, "0@30x5u 5@5x2u");
        gets(x, 8, "0@30x5u 5@15x3u");
        gets(x, 9, "0@30x5u 5@50x4u");
    }

    private void lowestOfSeveralLongest() {
        check.part("if none has so many, the longest one, the lowest of several");
        Tested x = Volumes.withRows(5, 2, 15, 4, 30, 4, 50, 3);
        gets(x, 5, "0@15x4u 4@5x1u");
        gets(x, 8, "0@15x4u 4@30x4u");
    }

    private void whatIsLeftIsChosenAnew() {
        check.part("Then, as long as some are left");
        Tested x = Volumes.withRows(5, 2, 15, 4, 30, 4, 50, 3);
        gets(x, 9, "0@15x4u 4@30x4u 8@5x1u");
        gets(x, 10, "0@15x4u 4@30x4u 8@5x2u");
        gets(x, 11, "0@15x4u 4@30x4u 8@50x3u");
    }

    private void leftFromBehindTheBlockBefore() {
        check.part("Then, as long as some are left of a row that began behind block a - 1's place");
        Tested x = Volumes.withRows(5, 2, 15, 3, 30, 4, 50, 3);
        x.preallocate(0, 0, 1);
        extentsAre(x, 0, "0@5x1u");
        // One behind, the longest whole, the lowest of the two that fit for what is left.
        x.preallocate(0, 1, 8);
        extentsAre(x, 0, "0@5x2u 2@30x4u 6@15x3u");
    }

    private void wholeVolume() {
        check.part("TO MAP all places of the volume");
        Tested x = Volumes.full();
        check.due("places not taken", Volumes.untaken(x).size(), 0);
        extentsAre(x, 2, "0@48x8u 8@56x8u 16@64x8u");
        extentsAre(x, 3, "0@72x8u");
        x.punch(3, 0, 8);
        check.due("the last row whole", x.preallocate(0, 24, 6), 6);
        extentsAre(x, 0, "0@0x8u 8@8x8u 16@16x8u 24@72x6u");
    }

    private void takenMeansMapped() {
        check.part("(A place is taken when a block is mapped to it.)");
        Tested x = new Tested();
        x.write(0, 0, 1);
        x.preallocate(1, 0, 1);
        check.due("owner(0) beside a page", x.owner(0), 60);
        x.punch(1, 0, 1);
        x.preallocate(2, 0, 1);
        check.due("owner(0) behind a punch", x.owner(0), 120);
        x.truncate(2, 0);
        x.flush(0);
        check.due("owner(0) behind a truncate", x.owner(0), 0);
        x.write(0, 0, 2);
        x.crash();
        x.preallocate(3, 0, 1);
        check.due("owner(0) behind a crash", x.owner(0), 0);
        check.due("owner(1)", x.owner(1), 180);
    }

    private void preallocateEachRowForItself() {
        check.part("preallocate: each longest row of them for itself");
        Tested x = Volumes.withRows(10, 3, 20, 1, 30, 2, 50, 4);
        x.preallocate(0, 2, 1);
        extentsAre(x, 0, "2@20x1u");
        // Rows of two and of one; together they would fit in a row of three.
        check.due("preallocate(0, 0, 4)", x.preallocate(0, 0, 4), 3);
        extentsAre(x, 0, "0@30x2u 2@20x1u 3@10x1u");
    }

    private void preallocateRowsFromTheLowestOn() {
        check.part("preallocate: from the lowest on");
        Tested x = Volumes.withRows(10, 2, 20, 1, 30, 8);
        x.preallocate(0, 2, 1);
        extentsAre(x, 0, "2@20x1u");
        check.due("preallocate(0, 0, 5)", x.preallocate(0, 0, 5), 4);
        extentsAre(x, 0, "0@10x2u 2@20x1u 3@30x2u");
        // The second row goes behind the mapped block between, where the first has left it room.
        Tested y = new Tested();
        y.preallocate(0, 5, 1);
        check.due("preallocate(0, 3, 5)", y.preallocate(0, 3, 5), 4);
        extentsAre(y, 0, "3@1x2u 5@0x1u 6@3x2u");
    }

    private void preallocateOnlyItsBlocks() {
        check.part("preallocate: all holes of the n blocks from one on");
        Tested x = Volumes.withRows(10, 3, 30, 5, 50, 4);
        check.due("preallocate(0, 5, 3)", x.preallocate(0, 5, 3), 3);
        extentsAre(x, 0, "5@10x3u");
        check.due("preallocate(0, 4, 1)", x.preallocate(0, 4, 1), 1);
        check.due("preallocate(0, 8, 1)", x.preallocate(0, 8, 1), 1);
        check.due("mapped", x.about(0, 1), 5);
        // A row of holes is cut by the end of the range: three fit in three.
        Tested y = Volumes.withRows(10, 3, 30, 5, 50, 4);
        y.preallocate(0, 57, 3);
        extentsAre(y, 0, "57@10x3u");
    }

    private void flushOnlyHolesWithPages() {
        check.part("TO FLUSH a file: its holes with pages are mapped");
        Tested x = new Tested();
        x.write(0, 10, 1);
        x.truncate(0, 60);
        check.due("flush(0)", x.flush(0), 1);
        extentsAre(x, 0, "10@0x1");
        check.due("mapped", x.about(0, 1), 1);
        x.write(0, 0, 2);
        x.write(0, 59, 3);
        check.due("flush(0) of the first and the last", x.flush(0), 2);
        extentsAre(x, 0, "0@1x1 10@0x1 59@2x1");
    }

    private void flushEachRowForItself() {
        check.part("TO FLUSH a file: each longest row of such holes for itself");
        Tested x = Volumes.withRows(10, 3, 30, 2, 50, 6);
        x.write(0, 0, 1);
        x.write(0, 1, 2);
        x.write(0, 3, 3);
        check.due("flush(0)", x.flush(0), 3);
        extentsAre(x, 0, "0@30x2 3@10x1");
        Tested one = Volumes.withRows(10, 3, 30, 2, 50, 6);
        one.write(0, 3, 3);
        one.write(0, 4, 4);
        one.write(0, 2, 2);
        check.due("flush(0) of one row", one.flush(0), 3);
        extentsAre(one, 0, "2@10x3");
    }

    private void flushRowsFromTheLowestOn() {
        check.part("TO FLUSH a file: from the lowest on");
        Tested x = Volumes.withRows(10, 2, 30, 9);
        x.write(0, 40, 4);
        x.write(0, 41, 5);
        x.write(0, 7, 1);
        x.write(0, 8, 2);
        check.due("flush(0)", x.flush(0), 4);
        extentsAre(x, 0, "7@10x2 40@30x2");
        check.due("values", x.value(10) + " " + x.value(11) + " " + x.value(30) + " " + x.value(31), "1 2 4 5");
    }

    private void flushBehindAMappedBlock() {
        check.part("TO FLUSH a file: holes behind a mapped block, with a page or not");
        Tested x = Volumes.withRows(10, 6, 30, 2, 50, 6);
        x.preallocate(0, 0, 3);
        x.write(0, 2, 1);
        x.write(0, 3, 2);
        x.write(0, 4, 3);
        check.due("flush(0)", x.flush(0), 3);
        extentsAre(x, 0, "0@10x2u 2@12x3");
        // A mapped block with a page parts two rows, and stays where it is.
        Tested y = Volumes.withRows(10, 1, 30, 2, 50, 8);
        y.preallocate(0, 5, 1);
        y.write(0, 4, 4);
        y.write(0, 5, 5);
        y.write(0, 6, 6);
        extentsAre(y, 0, "5@10x1u");
        y.flush(0);
        extentsAre(y, 0, "4@30x1 5@10x1 6@31x1");
    }

    private void flushWritesAllPages() {
        check.part("then all its blocks with pages are written, the values come to their places, and the pages go");
        Tested x = new Tested();
        x.write(0, 0, 1);
        x.flush(0);
        x.preallocate(0, 1, 2);
        x.write(0, 0, 10);
        x.write(0, 1, 20);
        x.write(0, 3, 40);
        check.due("flush(0)", x.flush(0), 3);
        extentsAre(x, 0, "0@0x2 2@2x1u 3@3x1");
        check.due("values", x.value(0) + " " + x.value(1) + " " + x.value(2) + " " + x.value(3), "10 20 0 40");
        check.due("pages", x.about(0, 4), 0);
        check.due("crash() behind it", x.crash(), 0);
        check.due("reads", x.read(0, 0) + " " + x.read(0, 1) + " " + x.read(0, 2) + " " + x.read(0, 3), "10 20 0 40");
        // A page of the value 0 is a page, too.
        x.write(0, 0, 0);
        check.due("flush(0) of a 0", x.flush(0), 1);
        check.due("value(0)", x.value(0), 0);
    }

    private void flushOfOneFile() {
        check.part("TO FLUSH a file, not the others");
        Tested x = new Tested();
        for (int f = 0; f < 4; f++) {
            x.write(f, 5, 50 + f);
        }
        check.due("flush(2)", x.flush(2), 1);
        for (int f = 0; f < 4; f++) {
            check.due("pages of " + f, x.about(f, 4), f == 2 ? 0 : 1);
            check.due("mapped of " + f, x.about(f, 1), f == 2 ? 1 : 0);
        }
        check.due("owner(0)", x.owner(0), 125);
        check.due("flush(3)", x.flush(3), 1);
        check.due("owner(1)", x.owner(1), 185);
        check.due("crash()", x.crash(), 2);
    }

    private void flushWithoutPages() {
        check.part("TO FLUSH a file without pages");
        Tested x = Volumes.someOfEach();
        x.punch(1, 59, 1);
        Tested before = x.again();
        check.due("flush(1)", x.flush(1), 0);
        check.same("behind a flush of no pages", x, before);
        Tested full = Volumes.full();
        check.due("flush(0) when nothing is free", full.flush(0), 0);
        check.same("behind a flush when nothing is free", full, Volumes.full());
    }

    private void flushOfAllPages() {
        check.part("TO FLUSH a file with all 24 pages");
        Tested x = new Tested();
        for (int b = 0; b < 24; b++) {
            x.write(3, 2 * b, b + 1);
        }
        roomIs(x, 80, 30);
        check.due("flush(3)", x.flush(3), 24);
        check.due("extents", x.about(3, 2), 24);
        roomIs(x, 50, 0);
        for (int b = 0; b < 24; b++) {
            check.due("value(" + b + ")", x.value(b), b + 1);
            check.due("owner(" + b + ")", x.owner(b), 180 + 2 * b);
        }
    }

    private void roomIs(Tested x, int free, int reserved) {
        check.due("free()", x.free(), free);
        check.due("reserved()", x.reserved(), reserved);
    }
}
