import java.util.Arrays;

/**
 * Four files of blocks on one volume. What is written waits in pages until it is flushed and only
 * then gets places; a write or a preallocation is let in only if all that waits will find room.
 */
public final class DelayedExtents {
    public static final int NONE = -1;

    private static final int FILES = 4;
    private static final int BLOCKS = 60;
    private static final int PLACES = 80;
    private static final int PAGES = 24;
    private static final int LONGEST_EXTENT = 8;
    private static final int EXTENTS_WITHOUT_TREE = 3;
    private static final int EXTENTS_OF_TREE_BLOCK = 4;

    private final Volume volume;
    private final BlockFile[] files;

    public DelayedExtents() {
        volume = new Volume();
        files = new BlockFile[FILES];
        for (int f = 0; f < FILES; f++) {
            files[f] = new BlockFile(volume, f * BLOCKS);
        }
    }

    public void write(int file, int block, int value)
            throws IndexOutOfBoundsException, IllegalStateException, UnsupportedOperationException {
        requireBlock(file, block);
        BlockFile f = files[file];
        boolean isNew = !f.hasPage(block);
        if (isNew && countPages() >= PAGES) {
            throw new IllegalStateException();
        }
        f.putPage(block, value);
        // Only a new page can reserve more; another value in an old one needs no more room.
        if (isNew && isOverbooked()) {
            f.dropPage(block);
            throw new UnsupportedOperationException();
        }
        f.growTo(block + 1);
    }

    public int read(int file, int block) throws IndexOutOfBoundsException {
        requireBlock(file, block);
        return files[file].readsAs(block);
    }

    public int preallocate(int file, int from, int n)
            throws IndexOutOfBoundsException, IllegalArgumentException, UnsupportedOperationException {
        requireBlock(file, from);
        requireRow(from, n);
        BlockFile f = files[file];
        int end = from + n;
        int holes = f.countHoles(from, end);
        // With fewer places than holes the free would come to less than nothing: no need to try.
        if (holes > volume.countUntaken()) {
            throw new UnsupportedOperationException();
        }
        // How many extents come out hangs on the places, so it is tried, and undone if too dear.
        f.noteHoles();
        f.mapHoles(from, end, false);
        if (isOverbooked()) {
            f.restoreHoles();
            throw new UnsupportedOperationException();
        }
        return holes;
    }

    public int punch(int file, int from, int n) throws IndexOutOfBoundsException, IllegalArgumentException {
        requireBlock(file, from);
        requireRow(from, n);
        return files[file].makeHoles(from, from + n);
    }

    public int truncate(int file, int size) throws IndexOutOfBoundsException, IllegalArgumentException {
        requireFile(file);
        if (size < 0 || size > BLOCKS) {
            throw new IllegalArgumentException();
        }
        files[file].setSize(size);
        return files[file].makeHoles(size, BLOCKS);
    }

    public int flush(int file) throws IndexOutOfBoundsException {
        requireFile(file);
        BlockFile f = files[file];
        f.mapHoles(0, BLOCKS, true);
        return f.writePages();
    }

    public int crash() {
        int gone = countPages();
        for (int f = 0; f < FILES; f++) {
            files[f].dropPages();
        }
        return gone;
    }

    public int extent(int file, int k, int what) throws IndexOutOfBoundsException, IllegalArgumentException {
        requireFile(file);
        BlockFile f = files[file];
        int first = f.firstBlockOfExtent(k);
        if (first == NONE) {
            throw new IndexOutOfBoundsException();
        }
        switch (what) {
            case 0:
                return first;
            case 1:
                return f.placeOf(first);
            case 2:
                return f.extentLength(first);
            case 3:
                return f.isWritten(first) ? 0 : 1;
            default:
                throw new IllegalArgumentException();
        }
    }

    public int about(int file, int what) throws IndexOutOfBoundsException, IllegalArgumentException {
        requireFile(file);
        BlockFile f = files[file];
        switch (what) {
            case 0:
                return f.size();
            case 1:
                return f.countMapped();
            case 2:
                return f.countExtents();
            case 3:
                return treeBlocks(f.countExtents());
            case 4:
                return f.countPages();
            case 5:
                return f.countReserved();
            default:
                throw new IllegalArgumentException();
        }
    }

    public int free() {
        int free = PLACES;
        for (int f = 0; f < FILES; f++) {
            free -= files[f].countMapped() + treeBlocks(files[f].countExtents());
        }
        return free;
    }

    public int reserved() {
        int reserved = 0;
        for (int f = 0; f < FILES; f++) {
            reserved += files[f].countReserved();
        }
        return reserved;
    }

    public int owner(int place) throws IndexOutOfBoundsException {
        requirePlace(place);
        return volume.ownerOf(place);
    }

    public int value(int place) throws IndexOutOfBoundsException {
        requirePlace(place);
        return volume.valueAt(place);
    }

    private static void requireFile(int file) {
        if (file < 0 || file >= FILES) {
            throw new IndexOutOfBoundsException();
        }
    }

    private static void requireBlock(int file, int block) {
        requireFile(file);
        if (block < 0 || block >= BLOCKS) {
            throw new IndexOutOfBoundsException();
        }
    }

    private static void requireRow(int from, int n) {
        // from + n could wrap around; BLOCKS - from can't.
        if (n < 1 || n > BLOCKS - from) {
            throw new IllegalArgumentException();
        }
    }

    private static void requirePlace(int place) {
        if (place < 0 || place >= PLACES) {
            throw new IndexOutOfBoundsException();
        }
    }

    private static int treeBlocks(int extents) {
        if (extents <= EXTENTS_WITHOUT_TREE) {
            return 0;
        }
        return (extents + EXTENTS_OF_TREE_BLOCK - 1) / EXTENTS_OF_TREE_BLOCK;
    }

    private int countPages() {
        int pages = 0;
        for (int f = 0; f < FILES; f++) {
            pages += files[f].countPages();
        }
        return pages;
    }

    private boolean isOverbooked() {
        return free() < reserved();
    }

    /** The places: whose each is, and what value it has. */
    private static final class Volume {
        private final int[] owners = new int[PLACES];
        private final int[] values = new int[PLACES];

        Volume() {
            Arrays.fill(owners, NONE);
        }

        int ownerOf(int place) {
            return owners[place];
        }

        int valueAt(int place) {
            return values[place];
        }

        void setValue(int place, int value) {
            values[place] = value;
        }

        void take(int place, int owner) {
            owners[place] = owner;
        }

        void release(int place) {
            owners[place] = NONE;
        }

        boolean isUntaken(int place) {
            return place >= 0 && place < PLACES && owners[place] == NONE;
        }

        int countUntaken() {
            int untaken = 0;
            for (int p = 0; p < PLACES; p++) {
                if (owners[p] == NONE) {
                    untaken++;
                }
            }
            return untaken;
        }

        /** The first place of the row that suits a number of blocks best; NONE if all are taken. */
        int bestRow(int wanted) {
            int best = NONE;
            int bestLength = 0;
            int start = 0;
            while (start < PLACES) {
                int length = untakenFrom(start);
                if (suitsBetter(length, bestLength, wanted)) {
                    best = start;
                    bestLength = length;
                }
                // The place behind a row is taken, or is the end.
                start += length + 1;
            }
            return best;
        }

        private int untakenFrom(int start) {
            int end = start;
            while (end < PLACES && owners[end] == NONE) {
                end++;
            }
            return end - start;
        }

        private static boolean suitsBetter(int length, int bestLength, int wanted) {
            if (bestLength < wanted) {
                return length > bestLength;
            }
            return length >= wanted && length < bestLength;
        }
    }

    /** One file: where its blocks are, which of them are written, and their pages. */
    private static final class BlockFile {
        private final Volume volume;
        private final int firstOwner;
        private final int[] places = new int[BLOCKS];
        private final boolean[] written = new boolean[BLOCKS];
        private final boolean[] paged = new boolean[BLOCKS];
        private final int[] pageValues = new int[BLOCKS];
        private final boolean[] notedHoles = new boolean[BLOCKS];
        private int size = 0;

        BlockFile(Volume volume, int firstOwner) {
            this.volume = volume;
            this.firstOwner = firstOwner;
            Arrays.fill(places, NONE);
        }

        int size() {
            return size;
        }

        void setSize(int newSize) {
            size = newSize;
        }

        void growTo(int least) {
            size = Math.max(size, least);
        }

        int placeOf(int block) {
            return places[block];
        }

        boolean isWritten(int block) {
            return written[block];
        }

        boolean isHole(int block) {
            return places[block] == NONE;
        }

        boolean hasPage(int block) {
            return paged[block];
        }

        void putPage(int block, int value) {
            paged[block] = true;
            pageValues[block] = value;
        }

        void dropPage(int block) {
            paged[block] = false;
        }

        void dropPages() {
            for (int b = 0; b < BLOCKS; b++) {
                dropPage(b);
            }
        }

        int readsAs(int block) {
            if (paged[block]) {
                return pageValues[block];
            }
            if (isHole(block) || !written[block]) {
                return 0;
            }
            return volume.valueAt(places[block]);
        }

        int countPages() {
            int pages = 0;
            for (int b = 0; b < BLOCKS; b++) {
                if (paged[b]) {
                    pages++;
                }
            }
            return pages;
        }

        int countMapped() {
            return BLOCKS - countHoles(0, BLOCKS);
        }

        int countHoles(int from, int end) {
            int holes = 0;
            for (int b = from; b < end; b++) {
                if (isHole(b)) {
                    holes++;
                }
            }
            return holes;
        }

        int countReserved() {
            int holes = 0;
            int unwritten = 0;
            for (int b = 0; b < BLOCKS; b++) {
                if (paged[b] && isHole(b)) {
                    holes++;
                } else if (paged[b] && !written[b]) {
                    unwritten++;
                }
            }
            int extents = countExtents();
            // A hole may become an extent of its own; an unwritten block may cut one into three.
            int mostExtents = extents + holes + 2 * unwritten;
            return holes + treeBlocks(mostExtents) - treeBlocks(extents);
        }

        int countExtents() {
            int extents = 0;
            int b = 0;
            while (b < BLOCKS) {
                int length = extentLength(b);
                if (length > 0) {
                    extents++;
                }
                b += Math.max(length, 1);
            }
            return extents;
        }

        /** The first block of extent k; NONE if there is no such extent. */
        int firstBlockOfExtent(int k) {
            int extents = 0;
            int b = 0;
            while (b < BLOCKS) {
                int length = extentLength(b);
                if (length > 0) {
                    if (extents == k) {
                        return b;
                    }
                    extents++;
                }
                b += Math.max(length, 1);
            }
            return NONE;
        }

        /** How many blocks the extent that begins with a block has; 0 for a hole. */
        int extentLength(int first) {
            if (isHole(first)) {
                return 0;
            }
            int limit = Math.min(first + LONGEST_EXTENT, BLOCKS);
            int b = first + 1;
            while (b < limit && continuesRow(b)) {
                b++;
            }
            return b - first;
        }

        /** Whether a block goes on the row of the mapped block before it. */
        private boolean continuesRow(int block) {
            return places[block] == places[block - 1] + 1 && written[block] == written[block - 1];
        }

        /** Maps the holes of a range, or those of them with pages, each longest row for itself. */
        void mapHoles(int from, int end, boolean pagedOnly) {
            int first = from;
            while (first < end) {
                int behind = endOfRow(first, end, pagedOnly);
                mapRow(first, behind);
                // The block behind a row is none to map, or is the end.
                first = behind + 1;
            }
        }

        private int endOfRow(int first, int end, boolean pagedOnly) {
            int b = first;
            while (b < end && isHole(b) && (paged[b] || !pagedOnly)) {
                b++;
            }
            return b;
        }

        private void mapRow(int first, int end) {
            int place = placeBehind(first - 1);
            for (int b = first; b < end; b++) {
                if (!volume.isUntaken(place)) {
                    place = volume.bestRow(end - b);
                }
                mapTo(b, place);
                place++;
            }
        }

        /** The place behind that of a block; NONE if there is no such block or it is a hole. */
        private int placeBehind(int block) {
            if (block < 0 || isHole(block)) {
                return NONE;
            }
            return places[block] + 1;
        }

        private void mapTo(int block, int place) {
            // What is let in always finds a place; a block that found none would stay a hole.
            if (volume.isUntaken(place)) {
                places[block] = place;
                volume.take(place, firstOwner + block);
            }
        }

        private void unmap(int block) {
            volume.release(places[block]);
            places[block] = NONE;
            written[block] = false;
        }

        /** Answers how many of the blocks were mapped. */
        int makeHoles(int from, int end) {
            int unmapped = 0;
            for (int b = from; b < end; b++) {
                dropPage(b);
                if (!isHole(b)) {
                    unmap(b);
                    unmapped++;
                }
            }
            return unmapped;
        }

        /** Writes the pages to the places of their blocks, and answers how many they were. */
        int writePages() {
            int pages = 0;
            for (int b = 0; b < BLOCKS; b++) {
                if (paged[b]) {
                    writePage(b);
                    pages++;
                }
            }
            return pages;
        }

        private void writePage(int block) {
            if (!isHole(block)) {
                volume.setValue(places[block], pageValues[block]);
                written[block] = true;
            }
            dropPage(block);
        }

        void noteHoles() {
            for (int b = 0; b < BLOCKS; b++) {
                notedHoles[b] = isHole(b);
            }
        }

        void restoreHoles() {
            for (int b = 0; b < BLOCKS; b++) {
                if (notedHoles[b] && !isHole(b)) {
                    unmap(b);
                }
            }
        }
    }
}
