import java.util.ArrayList;
import java.util.List;
import java.util.Map;
import java.util.TreeMap;
import java.util.TreeSet;

/**
 * The document told a second time, as literally as can be and without regard to cost, so that the
 * class can be compared with it. A key is 60 * file + block. Every call answers a text.
 */
final class Model {
    private TreeMap<Integer, Integer> mapped = new TreeMap<>();
    private TreeSet<Integer> written = new TreeSet<>();
    private TreeMap<Integer, Integer> pages = new TreeMap<>();
    private int[] sizes = new int[4];
    private int[] values = new int[80];

    String write(int file, int block, int value) {
        if (noBlock(file, block)) {
            return "throws.IndexOutOfBoundsException";
        }
        int key = 60 * file + block;
        if (!pages.containsKey(key) && pages.size() == 24) {
            return "throws.IllegalStateException";
        }
        Model before = copy();
        pages.put(key, value);
        sizes[file] = sizes[file] < block + 1 ? block + 1 : sizes[file];
        return orUndo(before, "0");
    }

    String read(int file, int block) {
        if (noBlock(file, block)) {
            return "throws.IndexOutOfBoundsException";
        }
        return "" + readsAs(60 * file + block);
    }

    String preallocate(int file, int from, int n) {
        if (noBlock(file, from)) {
            return "throws.IndexOutOfBoundsException";
        }
        if (n < 1 || (long) from + n > 60) {
            return "throws.IllegalArgumentException";
        }
        TreeSet<Integer> holes = new TreeSet<>();
        for (int b = from; b < from + n; b++) {
            if (!mapped.containsKey(60 * file + b)) {
                holes.add(60 * file + b);
            }
        }
        if (mapped.size() + holes.size() > 80) {
            return "throws.UnsupportedOperationException";
        }
        Model before = copy();
        String answer = "" + holes.size();
        mapAll(holes);
        return orUndo(before, answer);
    }

    String punch(int file, int from, int n) {
        if (noBlock(file, from)) {
            return "throws.IndexOutOfBoundsException";
        }
        if (n < 1 || (long) from + n > 60) {
            return "throws.IllegalArgumentException";
        }
        return "" + clear(60 * file + from, 60 * file + from + n);
    }

    String truncate(int file, int size) {
        if (noFile(file)) {
            return "throws.IndexOutOfBoundsException";
        }
        if (size < 0 || size > 60) {
            return "throws.IllegalArgumentException";
        }
        sizes[file] = size;
        return "" + clear(60 * file + size, 60 * file + 60);
    }

    String flush(int file) {
        if (noFile(file)) {
            return "throws.IndexOutOfBoundsException";
        }
        TreeMap<Integer, Integer> own = new TreeMap<>(pages.subMap(60 * file, 60 * file + 60));
        TreeSet<Integer> holes = new TreeSet<>(own.keySet());
        holes.removeAll(mapped.keySet());
        mapAll(holes);
        for (Map.Entry<Integer, Integer> page : own.entrySet()) {
            values[mapped.get(page.getKey())] = page.getValue();
            written.add(page.getKey());
            pages.remove(page.getKey());
        }
        return "" + own.size();
    }

    String crash() {
        int gone = pages.size();
        pages.clear();
        return "" + gone;
    }

    String extent(int file, int k, int what) {
        if (noFile(file) || k < 0 || k >= extents(file).size()) {
            return "throws.IndexOutOfBoundsException";
        }
        if (what < 0 || what > 3) {
            return "throws.IllegalArgumentException";
        }
        return "" + extents(file).get(k)[what];
    }

    String about(int file, int what) {
        if (noFile(file)) {
            return "throws.IndexOutOfBoundsException";
        }
        switch (what) {
            case 0: return "" + sizes[file];
            case 1: return "" + mapped.subMap(60 * file, 60 * file + 60).size();
            case 2: return "" + extents(file).size();
            case 3: return "" + tree(extents(file).size());
            case 4: return "" + pages.subMap(60 * file, 60 * file + 60).size();
            case 5: return "" + reservedOf(file);
            default: return "throws.IllegalArgumentException";
        }
    }

    int free() {
        int trees = 0;
        for (int f = 0; f < 4; f++) {
            trees += tree(extents(f).size());
        }
        return 80 - mapped.size() - trees;
    }

    int reserved() {
        return reservedOf(0) + reservedOf(1) + reservedOf(2) + reservedOf(3);
    }

    String owner(int place) {
        return place < 0 || place > 79 ? "throws.IndexOutOfBoundsException" : "" + ownerOf(place);
    }

    String value(int place) {
        return place < 0 || place > 79 ? "throws.IndexOutOfBoundsException" : "" + values[place];
    }

    int pagesInAll() {
        return pages.size();
    }

    /** How many extents the file with the most of them has. */
    int mostExtents() {
        int most = 0;
        for (int f = 0; f < 4; f++) {
            most = Math.max(most, extents(f).size());
        }
        return most;
    }

    /** In the form of Check.state. */
    String state() {
        StringBuilder s = new StringBuilder();
        s.append("free ").append(free()).append(" reserved ").append(reserved());
        for (int f = 0; f < 4; f++) {
            s.append("\nfile ").append(f).append(':');
            for (int what = 0; what < 6; what++) {
                s.append(' ').append(about(f, what));
            }
            List<String> told = new ArrayList<>();
            for (int[] e : extents(f)) {
                told.add(e[0] + "@" + e[1] + "x" + e[2] + (e[3] == 1 ? "u" : ""));
            }
            s.append(" extents ").append(String.join(" ", told)).append(" reads");
            for (int b = 0; b < 60; b++) {
                s.append(' ').append(readsAs(60 * f + b));
            }
        }
        s.append("\nplaces");
        for (int p = 0; p < 80; p++) {
            s.append(' ').append(ownerOf(p)).append('=').append(values[p]);
        }
        return s.toString();
    }

    private static boolean noFile(int file) {
        return file < 0 || file > 3;
    }

    private static boolean noBlock(int file, int block) {
        return noFile(file) || block < 0 || block > 59;
    }

    private static int tree(int e) {
        return e <= 3 ? 0 : e / 4 + (e % 4 == 0 ? 0 : 1);
    }

    private int readsAs(int key) {
        if (pages.containsKey(key)) {
            return pages.get(key);
        }
        return written.contains(key) ? values[mapped.get(key)] : 0;
    }

    private int ownerOf(int place) {
        for (Map.Entry<Integer, Integer> e : mapped.entrySet()) {
            if (e.getValue() == place) {
                return e.getKey();
            }
        }
        return -1;
    }

    private int reservedOf(int file) {
        int h = 0;
        int u = 0;
        for (int key : pages.subMap(60 * file, 60 * file + 60).keySet()) {
            if (!mapped.containsKey(key)) {
                h++;
            } else if (!written.contains(key)) {
                u++;
            }
        }
        int e = extents(file).size();
        return h + tree(e + h + 2 * u) - tree(e);
    }

    /** First the longest rows, then each of them cut into eights. */
    private List<int[]> extents(int file) {
        List<int[]> rows = new ArrayList<>();
        for (Map.Entry<Integer, Integer> e : mapped.subMap(60 * file, 60 * file + 60).entrySet()) {
            int block = e.getKey() - 60 * file;
            int unwritten = written.contains(e.getKey()) ? 0 : 1;
            int[] last = rows.isEmpty() ? null : rows.get(rows.size() - 1);
            if (last != null && last[0] + last[2] == block && last[1] + last[2] == e.getValue() && last[3] == unwritten) {
                last[2]++;
            } else {
                rows.add(new int[] {block, e.getValue(), 1, unwritten});
            }
        }
        List<int[]> cut = new ArrayList<>();
        for (int[] row : rows) {
            for (int i = 0; i < row[2]; i += 8) {
                cut.add(new int[] {row[0] + i, row[1] + i, Math.min(8, row[2] - i), row[3]});
            }
        }
        return cut;
    }

    private int clear(int fromKey, int endKey) {
        int were = mapped.subMap(fromKey, endKey).size();
        mapped.subMap(fromKey, endKey).clear();
        written.subSet(fromKey, endKey).clear();
        pages.subMap(fromKey, endKey).clear();
        return were;
    }

    /** Uses up the holes that it is given. */
    private void mapAll(TreeSet<Integer> holes) {
        while (!holes.isEmpty()) {
            List<Integer> row = new ArrayList<>();
            for (int key = holes.first(); holes.remove(key); key++) {
                row.add(key);
            }
            mapRow(row);
        }
    }

    private void mapRow(List<Integer> row) {
        int a = row.get(0);
        if (a % 60 != 0 && mapped.containsKey(a - 1)) {
            int place = mapped.get(a - 1) + 1;
            while (!row.isEmpty() && place < 80 && !mapped.containsValue(place)) {
                mapped.put(row.remove(0), place++);
            }
        }
        while (!row.isEmpty()) {
            int[] places = choose(row.size());
            for (int i = 0; i < places[1] && !row.isEmpty(); i++) {
                mapped.put(row.remove(0), places[0] + i);
            }
        }
    }

    private int[] choose(int left) {
        List<int[]> rows = new ArrayList<>();
        for (int p = 0; p < 80; p++) {
            if (mapped.containsValue(p)) {
                continue;
            }
            int[] last = rows.isEmpty() ? null : rows.get(rows.size() - 1);
            if (last != null && last[0] + last[1] == p) {
                last[1]++;
            } else {
                rows.add(new int[] {p, 1});
            }
        }
        int[] shortest = null;
        int[] longest = null;
        for (int[] row : rows) {
            if (row[1] >= left && (shortest == null || row[1] < shortest[1])) {
                shortest = row;
            }
            if (longest == null || row[1] > longest[1]) {
                longest = row;
            }
        }
        return shortest != null ? shortest : longest;
    }

    private String orUndo(Model before, String answer) {
        if (free() >= reserved()) {
            return answer;
        }
        mapped = before.mapped;
        written = before.written;
        pages = before.pages;
        sizes = before.sizes;
        values = before.values;
        return "throws.UnsupportedOperationException";
    }

    private Model copy() {
        Model m = new Model();
        m.mapped = new TreeMap<>(mapped);
        m.written = new TreeSet<>(written);
        m.pages = new TreeMap<>(pages);
        m.sizes = sizes.clone();
        m.values = values.clone();
        return m;
    }
}
