/** "Terms", third part: what is free and reserved, and when a write or a preallocation is refused. */
public final class RoomTest {
    private final Check check = new Check();

    public static void main(String[] args) {
        RoomTest t = new RoomTest();
        t.freeAtTheEnds();
        t.freeWithoutMapped();
        t.freeWithoutTreeBlocks();
        t.reservedForHoles();
        t.reservedForUnwritten();
        t.reservedForBoth();
        t.reservedForNothing();
        t.reservedInAll();
        t.writeOfAHole();
        t.writeOfAHoleWithATree();
        t.writeOfAnUnwrittenBlock();
        t.writeOfAWrittenBlock();
        t.writeOfAPage();
        t.writeBesideOthersPages();
        t.preallocateOfHoles();
        t.preallocateOfTheLastPlace();
        t.preallocateWithATree();
        t.preallocateOfMappedBlocks();
        t.preallocateOfMoreThanPlaces();
        t.preallocateOfScatteredPlaces();
        t.preallocateOfAHoleWithAPage();
        t.preallocateBehindUnwritten();
        t.preallocateThatJoinsExtents();
        t.preallocateBesideOthersPages();
        t.flushFindsRoom();
        t.flushOfUnwrittenFindsRoom();
        t.otherCallsLeaveEnough();
        t.check.end();
    }

    private void roomIs(String when, Tested x, int free, int reserved) {
        check.due("free() " + when, x.free(), free);
        check.due("reserved() " + when, x.reserved(), reserved);
    }

    private static int tree(int e) {
        return e < 4 ? 0 : (e + 3) / 4;
    }

    private void freeAtTheEnds() {
        check.part("FREE are 80 less all: empty and full");
        roomIs("of a new object", new Tested(), 80, 0);
        roomIs("when all places are taken", Volumes.full(), 0, 0);
        roomIs("when all places are written", Volumes.fullAndWritten(), 0, 0);
        Tested x = Volumes.full();
        for (int f = 0; f < 4; f++) {
            x.truncate(f, 0);
        }
        roomIs("when all is given back", x, 80, 0);
    }

    private void freeWithoutMapped() {
        check.part("FREE are 80 less all blocks that are mapped");
        Tested x = new Tested();
        x.write(0, 0, 1);
        roomIs("with a page", x, 80, 1);
        x.flush(0);
        roomIs("with a written block", x, 79, 0);
        x.preallocate(1, 59, 1);
        roomIs("with an unwritten block", x, 78, 0);
        x.punch(0, 0, 1);
        roomIs("with the written block back", x, 79, 0);
        x.punch(1, 0, 60);
        roomIs("with both back", x, 80, 0);
    }

    private void freeWithoutTreeBlocks() {
        check.part("FREE are 80 less all tree blocks");
        Tested x = new Tested();
        x.preallocate(0, 0, 24);
        roomIs("with 3 extents", x, 56, 0);
        x.preallocate(0, 24, 1);
        roomIs("with 4 extents", x, 54, 0);
        x.preallocate(0, 25, 7);
        roomIs("with 4 extents of 8", x, 47, 0);
        x.preallocate(0, 32, 1);
        roomIs("with 5 extents", x, 45, 0);
        x.preallocate(3, 0, 33);
        roomIs("with 5 extents in two files", x, 10, 0);
    }

    /** A file with e unwritten blocks apart from each other, h holes with pages, and pages in u of the blocks. */
    private Tested reserving(int e, int h, int u) {
        Tested x = new Tested();
        for (int i = 0; i < e; i++) {
            x.preallocate(1, 2 * i, 1);
        }
        for (int i = 0; i < u; i++) {
            x.write(1, 2 * i, 1);
        }
        for (int i = 0; i < h; i++) {
            x.write(1, 2 * i + 1, 1);
        }
        return x;
    }

    private void reservedIs(int e, int h, int u, int want) {
        String which = e + " extents, " + h + " holes, " + u + " unwritten";
        Tested x = reserving(e, h, u);
        check.due("reserved() with " + which, x.reserved(), want);
        check.due("about(1, 5) with " + which, x.about(1, 5), want);
        check.due("about(0, 5) with " + which, x.about(0, 5), 0);
    }

    private void reservedForHoles() {
        check.part("RESERVED h blocks and as many more as it would have more tree blocks with e + h extents");
        reservedIs(0, 1, 0, 1);
        reservedIs(0, 3, 0, 3);
        reservedIs(0, 4, 0, 5);
        reservedIs(0, 5, 0, 7);
        reservedIs(0, 8, 0, 10);
        reservedIs(0, 9, 0, 12);
        reservedIs(0, 24, 0, 30);
        reservedIs(2, 1, 0, 1);
        reservedIs(3, 1, 0, 2);
        reservedIs(4, 1, 0, 2);
        reservedIs(5, 1, 0, 1);
        reservedIs(5, 3, 0, 3);
        reservedIs(5, 4, 0, 5);
        reservedIs(8, 1, 0, 2);
    }

    private void reservedForUnwritten() {
        check.part("RESERVED as many more as it would have more tree blocks with e + 2 u extents");
        reservedIs(1, 0, 1, 0);
        reservedIs(2, 0, 1, 1);
        reservedIs(2, 0, 2, 2);
        reservedIs(3, 0, 1, 2);
        reservedIs(3, 0, 3, 3);
        reservedIs(4, 0, 1, 1);
        reservedIs(4, 0, 2, 1);
        reservedIs(4, 0, 3, 2);
        reservedIs(6, 0, 1, 0);
        reservedIs(7, 0, 1, 1);
        reservedIs(24, 0, 24, 12);
    }

    private void reservedForBoth() {
        check.part("RESERVED with e + h + 2 u extents");
        for (int e = 0; e <= 9; e++) {
            for (int u = 0; u <= e; u++) {
                for (int h = 0; h <= 9; h++) {
                    reservedIs(e, h, u, h + tree(e + h + 2 * u) - tree(e));
                }
            }
        }
    }

    private void reservedForNothing() {
        check.part("RESERVED nothing without pages, or for written blocks");
        Tested x = new Tested();
        x.truncate(0, 60);
        check.due("reserved() for 60 holes", x.reserved(), 0);
        x.preallocate(0, 0, 60);
        check.due("reserved() for 60 unwritten blocks", x.reserved(), 0);
        Tested y = Volumes.fullAndWritten();
        for (int b = 0; b < 24; b++) {
            y.write(b % 3, b, 1);
            check.due("reserved() for pages of written blocks", y.reserved(), 0);
        }
        y.crash();
        y.write(3, 0, 1);
        check.due("about(3, 5)", y.about(3, 5), 0);
    }

    private void reservedInAll() {
        check.part("RESERVED in all is the sum over the files");
        Tested x = new Tested();
        int[] want = {1, 2, 3, 4, 5, 6, 7, 8, 9, 10, 11, 12, 14, 16, 18, 20, 22, 24, 26, 28};
        for (int i = 0; i < want.length; i++) {
            x.write(i % 4, i / 4, 1);
            check.due("reserved() with " + (i + 1) + " holes over four files", x.reserved(), want[i]);
        }
        for (int f = 0; f < 4; f++) {
            check.due("about(" + f + ", 5)", x.about(f, 5), 7);
        }
    }

    private void writeOfAHole() {
        check.part("A write that would leave fewer free than are reserved: of a hole");
        Tested none = Volumes.full();
        check.refused("write(3, 20, 1) with none free", none, Check.ROOM, Check.write(3, 20, 1));
        check.refused("write(3, 8, 1) with none free", none, Check.ROOM, Check.write(3, 8, 1));
        Tested one = Volumes.fullBut(1);
        one.write(3, 20, 1);
        roomIs("with just as many", one, 1, 1);
        check.due("size", one.about(3, 0), 21);
        check.refused("write(3, 40, 1) with one free and reserved", one, Check.ROOM, Check.write(3, 40, 1));
    }

    private void writeOfAHoleWithATree() {
        check.part("A write that would leave fewer free than are reserved: of a hole that may need a tree block");
        Tested one = Volumes.fullBut(1);
        check.refused("write(0, 30, 1) with one free", one, Check.ROOM, Check.write(0, 30, 1));
        Tested two = Volumes.fullBut(2);
        two.write(0, 30, 1);
        roomIs("with just as many", two, 2, 2);
        // From 3 extents to 5 it is two tree blocks at once.
        Tested three = Volumes.fullBut(3);
        three.write(0, 30, 1);
        check.refused("write(0, 40, 1) with three free", three, Check.ROOM, Check.write(0, 40, 1));
        Tested four = Volumes.fullBut(4);
        four.write(0, 30, 1);
        four.write(0, 40, 1);
        roomIs("with just as many", four, 4, 4);
        check.refused("write(0, 50, 1) with four free", four, Check.ROOM, Check.write(0, 50, 1));
    }

    private void writeOfAnUnwrittenBlock() {
        check.part("A write that would leave fewer free than are reserved: of an unwritten block");
        Tested x = Volumes.full();
        check.refused("write(0, 5, 1) with 3 extents", x, Check.ROOM, Check.write(0, 5, 1));
        // Even where fewer extents than feared would come of it: the end of a row is cut into two.
        check.refused("write(0, 23, 1) with 3 extents", x, Check.ROOM, Check.write(0, 23, 1));
        x.write(3, 3, 1);
        roomIs("with 1 extent", x, 0, 0);
        check.refused("write(3, 5, 1) with 1 extent and a page", x, Check.ROOM, Check.write(3, 5, 1));
        Tested one = Volumes.fullBut(1);
        check.refused("write(0, 5, 1) with one free", one, Check.ROOM, Check.write(0, 5, 1));
        Tested two = Volumes.fullBut(2);
        two.write(0, 5, 1);
        roomIs("with just as many", two, 2, 2);
        check.refused("write(1, 5, 1) with two free and reserved", two, Check.ROOM, Check.write(1, 5, 1));
    }

    private void writeOfAWrittenBlock() {
        check.part("A write of a written block needs no room");
        Tested x = Volumes.fullAndWritten();
        x.write(0, 5, 77);
        x.write(3, 7, 78);
        roomIs("with pages", x, 0, 0);
        check.due("reads", x.read(0, 5) + " " + x.read(3, 7), "77 78");
        check.refused("write(0, 24, 1)", x, Check.ROOM, Check.write(0, 24, 1));
        check.refused("write(3, 8, 1)", x, Check.ROOM, Check.write(3, 8, 1));
    }

    private void writeOfAPage() {
        check.part("A write of a block with a page needs no more room");
        Tested x = Volumes.fullBut(2);
        x.write(0, 30, 1);
        roomIs("with just as many", x, 2, 2);
        x.write(0, 30, 2);
        check.due("read of a hole's page", x.read(0, 30), 2);
        Tested y = Volumes.full();
        y.write(3, 3, 1);
        y.write(3, 3, 2);
        check.due("read of an unwritten block's page", y.read(3, 3), 2);
    }

    private void writeBesideOthersPages() {
        check.part("fewer free than are reserved in all: a write beside another file's pages");
        Tested x = Volumes.fullBut(2);
        x.write(3, 20, 1);
        check.refused("write(2, 30, 1)", x, Check.ROOM, Check.write(2, 30, 1));
        x.write(3, 30, 1);
        roomIs("with just as many", x, 2, 2);
        check.refused("write(3, 40, 1)", x, Check.ROOM, Check.write(3, 40, 1));
        x.punch(3, 20, 11);
        x.write(2, 30, 1);
        roomIs("with the other's pages gone", x, 2, 2);
    }

    private void preallocateOfHoles() {
        check.part("A preallocation that would leave fewer free than are reserved: of holes");
        Tested none = Volumes.full();
        check.refused("preallocate(3, 8, 1) with none free", none, Check.ROOM, y -> y.preallocate(3, 8, 1));
        check.refused("preallocate(3, 7, 2) with none free", none, Check.ROOM, y -> y.preallocate(3, 7, 2));
        Tested one = Volumes.fullBut(1);
        check.refused("preallocate(3, 20, 2) with one free", one, Check.ROOM, y -> y.preallocate(3, 20, 2));
        check.due("preallocate(3, 20, 1) with one free", one.preallocate(3, 20, 1), 1);
        roomIs("with just as many", one, 0, 0);
    }

    private void preallocateOfTheLastPlace() {
        check.part("A preallocation that takes the only place, wherever it is");
        // Blocks whose going makes no extent more, so that what is given back is free.
        for (int place : new int[] {0, 7, 8, 15, 16, 23, 24, 47, 48, 71, 72, 79}) {
            Tested x = Volumes.full();
            x.punch(place / 24, place % 24, 1);
            roomIs("without place " + place, x, 1, 0);
            check.refused("preallocate(3, 30, 2)", x, Check.ROOM, y -> y.preallocate(3, 30, 2));
            check.due("preallocate(3, 30, 1)", x.preallocate(3, 30, 1), 1);
            check.due("owner(" + place + ")", x.owner(place), 210);
            roomIs("with place " + place, x, 0, 0);
        }
    }

    private void preallocateWithATree() {
        check.part("A preallocation that would leave fewer free than are reserved: with a tree block");
        Tested one = Volumes.fullBut(1);
        check.refused("preallocate(1, 30, 1) with one free", one, Check.ROOM, y -> y.preallocate(1, 30, 1));
        Tested two = Volumes.fullBut(2);
        check.due("preallocate(2, 30, 1) with two free", two.preallocate(2, 30, 1), 1);
        roomIs("with just as many", two, 0, 0);
        check.due("tree blocks", two.about(2, 3), 1);
        Tested x = new Tested();
        x.preallocate(0, 0, 60);
        check.refused("preallocate(1, 0, 19) with 18 free", x, Check.ROOM, y -> y.preallocate(1, 0, 19));
        check.due("preallocate(1, 0, 18) with 18 free", x.preallocate(1, 0, 18), 18);
        roomIs("with two untaken places for the tree", x, 0, 0);
        check.due("places not taken", Volumes.untaken(x).toString(), "[78, 79]");
        check.refused("preallocate(1, 18, 1)", x, Check.ROOM, y -> y.preallocate(1, 18, 1));
    }

    private void preallocateOfMappedBlocks() {
        check.part("A preallocation of no holes needs no room");
        Tested x = Volumes.full();
        check.due("preallocate(0, 0, 24)", x.preallocate(0, 0, 24), 0);
        check.due("preallocate(3, 7, 1)", x.preallocate(3, 7, 1), 0);
        Tested y = Volumes.fullBut(2);
        y.write(0, 30, 1);
        check.due("preallocate(0, 3, 9) with all reserved", y.preallocate(0, 3, 9), 0);
        roomIs("with just as many", y, 2, 2);
        check.same("behind preallocations of no holes", x, Volumes.full());
    }

    private void preallocateOfMoreThanPlaces() {
        check.part("A preallocation of more holes than there are places");
        Tested x = new Tested();
        x.preallocate(0, 0, 60);
        for (int n : new int[] {20, 21, 22, 59, 60}) {
            check.refused("preallocate(1, 0, " + n + ")", x, Check.ROOM, y -> y.preallocate(1, 0, n));
        }
        Tested full = Volumes.full();
        check.refused("preallocate(0, 0, 60)", full, Check.ROOM, y -> y.preallocate(0, 0, 60));
        check.refused("preallocate(3, 0, 60)", full, Check.ROOM, y -> y.preallocate(3, 0, 60));
    }

    private void preallocateOfScatteredPlaces() {
        check.part("A preallocation that finds places apart from each other only");
        Tested x = Volumes.fullBut(4);
        roomIs("at first", x, 4, 0);
        // Four places are there, but five extents would have two tree blocks.
        check.refused("preallocate(3, 20, 4)", x, Check.ROOM, y -> y.preallocate(3, 20, 4));
        check.due("preallocate(3, 20, 3)", x.preallocate(3, 20, 3), 3);
        check.due("extents", Check.extents(x, 3), "0@72x7u 20@23x1u 21@47x1u 22@71x1u");
        roomIs("with a tree block", x, 0, 0);
        // One place is left, and it is the tree block's.
        check.due("owner(79)", x.owner(79), DelayedExtents.NONE);
        check.refused("preallocate(3, 23, 1)", x, Check.ROOM, y -> y.preallocate(3, 23, 1));
    }

    /** File 3 has 2 extents, and a hole with a page that may make it 3; besides what is given, all is taken. */
    private Tested holeWithPage(int spare) {
        Tested x = new Tested();
        x.preallocate(0, 0, 24);
        x.preallocate(1, 0, 24);
        x.preallocate(2, 0, 24);
        x.preallocate(3, 0, 6);
        x.preallocate(3, 10, 1);
        x.write(3, 20, 5);
        for (int f = 0; f < spare; f++) {
            x.punch(f, 23, 1);
        }
        return x;
    }

    private void preallocateOfAHoleWithAPage() {
        check.part("A preallocation of a hole with a page: one extent, and two more for the page");
        Tested none = holeWithPage(0);
        roomIs("at first", none, 1, 1);
        check.refused("preallocate(3, 20, 1)", none, Check.ROOM, y -> y.preallocate(3, 20, 1));
        check.due("flush(3) finds room all the same", none.flush(3), 1);
        Tested one = holeWithPage(1);
        roomIs("with one more", one, 2, 1);
        check.refused("preallocate(3, 20, 1) with one more", one, Check.ROOM, y -> y.preallocate(3, 20, 1));
        Tested two = holeWithPage(2);
        roomIs("with two more", two, 3, 1);
        check.due("preallocate(3, 20, 1) with two more", two.preallocate(3, 20, 1), 1);
        roomIs("with two tree blocks reserved", two, 2, 2);
        check.due("read of the page", two.read(3, 20), 5);
        check.due("flush(3)", two.flush(3), 1);
        roomIs("behind the flush", two, 2, 0);
    }

    private void preallocateBehindUnwritten() {
        check.part("A preallocation of a hole with a page that only makes a row longer");
        Tested x = Volumes.fullBut(0);
        x.punch(3, 7, 1);
        x.write(3, 7, 5);
        roomIs("at first", x, 1, 1);
        check.due("preallocate(3, 7, 1)", x.preallocate(3, 7, 1), 1);
        roomIs("with no tree block to fear", x, 0, 0);
        check.due("flush(3)", x.flush(3), 1);
        check.due("extents", Check.extents(x, 3), "0@72x7u 7@79x1");
        roomIs("behind the flush", x, 0, 0);
    }

    /** Nothing is free; file 0 has a tree block, and a hole whose place is not taken. */
    private Tested withAGap() {
        Tested x = new Tested();
        x.preallocate(0, 0, 7);
        x.preallocate(0, 20, 1);
        x.preallocate(0, 30, 1);
        x.punch(0, 3, 1);
        x.preallocate(1, 0, 24);
        x.preallocate(2, 0, 24);
        x.preallocate(3, 0, 23);
        return x;
    }

    private void preallocateThatJoinsExtents() {
        check.part("A preallocation that lets a tree block go");
        Tested x = withAGap();
        check.due("extents", Check.extents(x, 0), "0@0x3u 4@4x3u 20@7x1u 30@8x1u");
        roomIs("at first", x, 0, 0);
        check.refused("preallocate(0, 40, 1)", x, Check.ROOM, y -> y.preallocate(0, 40, 1));
        check.refused("preallocate(0, 3, 5)", x, Check.ROOM, y -> y.preallocate(0, 3, 5));
        check.refused("preallocate(3, 23, 1)", x, Check.ROOM, y -> y.preallocate(3, 23, 1));
        check.refused("write(0, 3, 1)", x, Check.ROOM, Check.write(0, 3, 1));
        check.due("preallocate(0, 3, 1)", x.preallocate(0, 3, 1), 1);
        check.due("extents", Check.extents(x, 0), "0@0x7u 20@7x1u 30@8x1u");
        roomIs("with the place for the tree block", x, 0, 0);
    }

    private void preallocateBesideOthersPages() {
        check.part("fewer free than are reserved in all: a preallocation beside pages");
        Tested x = Volumes.fullBut(3);
        x.write(3, 20, 1);
        x.write(3, 30, 1);
        roomIs("at first", x, 3, 2);
        check.refused("preallocate(2, 23, 2)", x, Check.ROOM, y -> y.preallocate(2, 23, 2));
        check.refused("preallocate(3, 40, 1)", x, Check.ROOM, y -> y.preallocate(3, 40, 1));
        check.due("preallocate(2, 23, 1)", x.preallocate(2, 23, 1), 1);
        roomIs("with just as many", x, 2, 2);
        check.refused("preallocate(1, 23, 1)", x, Check.ROOM, y -> y.preallocate(1, 23, 1));
        check.due("flush(3)", x.flush(3), 2);
        roomIs("behind the flush", x, 0, 0);
    }

    private void flushFindsRoom() {
        check.part("whatever is let in is sure to find room later: holes");
        Tested x = Volumes.fullBut(4);
        x.write(3, 20, 1);
        x.write(3, 21, 2);
        roomIs("with two holes", x, 4, 2);
        x.write(3, 22, 3);
        roomIs("with three holes", x, 4, 4);
        check.refused("write(3, 23, 4)", x, Check.ROOM, Check.write(3, 23, 4));
        check.due("flush(3)", x.flush(3), 3);
        // The places are apart, so that the tree block is needed indeed.
        check.due("extents", Check.extents(x, 3), "0@72x7u 20@23x1 21@47x1 22@71x1");
        roomIs("behind the flush", x, 0, 0);
        check.due("reads", x.read(3, 20) + " " + x.read(3, 21) + " " + x.read(3, 22), "1 2 3");
    }

    private void flushOfUnwrittenFindsRoom() {
        check.part("whatever is let in is sure to find room later: unwritten blocks");
        Tested x = Volumes.fullBut(2);
        x.write(0, 3, 9);
        roomIs("with a page", x, 2, 2);
        check.due("flush(0)", x.flush(0), 1);
        // 0 to 2, then the written one, then 4 to 22: 1 + 1 + 3 extents, two tree blocks.
        check.due("extents", Check.extents(x, 0), "0@0x3u 3@3x1 4@4x8u 12@12x8u 20@20x3u");
        roomIs("behind the flush", x, 0, 0);
        check.due("value(3)", x.value(3), 9);
    }

    private void otherCallsLeaveEnough() {
        check.part("(No other call leaves so few.)");
        Tested holes = Volumes.fullBut(4);
        holes.write(3, 20, 1);
        holes.write(3, 21, 2);
        holes.write(3, 22, 3);
        Tested unwritten = Volumes.fullBut(2);
        unwritten.write(0, 3, 9);
        Tested big = new Tested();
        big.preallocate(0, 0, 60);
        big.preallocate(1, 0, 18);
        for (Tested x : new Tested[] {Volumes.full(), holes, unwritten, holeWithPage(0), withAGap(), big}) {
            check.due("free less reserved at first", x.spare().free() - x.spare().reserved(), 0);
            punchesLeaveEnough(x);
            truncatesLeaveEnough(x);
            flushesAndCrashesLeaveEnough(x);
        }
    }

    private void punchesLeaveEnough(Tested x) {
        for (int f = 0; f < 4; f++) {
            for (int from = 0; from < 60; from++) {
                for (int n = 1; n <= 60 - from; n++) {
                    Tested y = x.again();
                    y.punch(f, from, n);
                    leavesEnough("punch(" + f + ", " + from + ", " + n + ")", y);
                }
            }
        }
    }

    private void truncatesLeaveEnough(Tested x) {
        for (int f = 0; f < 4; f++) {
            for (int size = 0; size <= 60; size++) {
                Tested y = x.again();
                y.truncate(f, size);
                leavesEnough("truncate(" + f + ", " + size + ")", y);
            }
        }
    }

    private void flushesAndCrashesLeaveEnough(Tested x) {
        for (int f = 0; f < 4; f++) {
            Tested y = x.again();
            y.flush(f);
            leavesEnough("flush(" + f + ")", y);
        }
        Tested y = x.again();
        y.crash();
        leavesEnough("crash()", y);
        check.due("reserved() behind a crash", y.reserved(), 0);
    }

    private void leavesEnough(String call, Tested y) {
        check.due("whether " + call + " leaves too few", y.free() < y.reserved() ? 1 : 0, 0);
    }
}
