import java.util.List;

/** That wrong() finds what is broken within, and that the rows of a new object are used for good. */
public final class WithinTest {
    private static final int KEYS = 60;
    private static final int MOST_FIELDS = 30000;

    public static void main(String[] args) {
        for (int function = 0; function <= 2; function++) {
            brokenRows(function);
        }
        brokenTrees();
        brokenNumbers();
        for (int mode = 0; mode <= 1; mode++) {
            swappedInPlace(mode, 0, 16, 8);
            swappedInPlace(mode, 1, 4, 9);
            swappedInPlace(mode, 1, 4, KEYS);
            swappedInLine(mode);
        }
        binsOfTouched();
        longBinsAreTrees();
        rowsAreUsedAgain();
        Due.finish("WithinTest");
    }

    private static BinMap filled(int mode, int function) {
        BinMap map = new BinMap();
        map.make(mode, function, mode == 2 ? KEYS : 0);
        map.fill(0, 1, KEYS);
        Due.answer("filled: wrong()", 0, map.wrong());
        return map;
    }

    private static void brokenRows(int function) {
        for (String path : new String[] {"line.before", "line.behind", "bins.next", "bins.previous"}) {
            BinMap map = filled(1, function);
            int[] row = new Inside(map, path).row();
            for (int slot = 1; slot <= KEYS; slot++) {
                breakOne(map, path, row, slot, row[slot] == 0 ? KEYS / 2 : 0);
                breakOne(map, path, row, slot, row[slot] == 1 ? 2 : 1);
            }
        }
        BinMap map = filled(0, function);
        int[] heads = new Inside(map, "bins.heads").row();
        for (int place = 0; place < 4; place++) {
            breakOne(map, "bins.heads", heads, place, heads[place] == 0 ? KEYS / 2 : 0);
            breakOne(map, "bins.heads", heads, place, heads[place] == 1 ? 2 : 1);
        }
        int[] keys = new Inside(map, "bins.trees.keys").row();
        for (int slot = 1; slot <= KEYS; slot++) {
            breakOne(map, "bins.trees.keys", keys, slot, keys[slot] + 1);
        }
    }

    private static void brokenTrees() {
        for (String path : new String[] {"bins.trees.left", "bins.trees.right", "bins.trees.heights"}) {
            BinMap map = filled(0, 1);
            int[] row = new Inside(map, path).row();
            for (int slot = 1; slot <= KEYS; slot++) {
                breakOne(map, path, row, slot, row[slot] == 0 ? KEYS / 2 : 0);
                breakOne(map, path, row, slot, row[slot] + 1);
            }
        }
        BinMap map = filled(0, 1);
        int[] roots = new Inside(map, "bins.roots").row();
        for (int place = 0; place < 4; place++) {
            breakOne(map, "bins.roots", roots, place, 0);
            breakOne(map, "bins.roots", roots, place, roots[place] + 4);
        }
    }

    private static void brokenNumbers() {
        String[] paths = {"line.first", "line.last", "line.count", "line.free", "bins.room", "most"};
        int[] broken = {2, 2, KEYS - 1, 0, 64, KEYS - 1};
        for (int i = 0; i < paths.length; i++) {
            BinMap map = filled(2, 0);
            Inside number = new Inside(map, paths[i]);
            int was = number.number();
            number.set(broken[i]);
            Due.holds("wrong() with " + paths[i] + " " + broken[i] + " is not 0", map.wrong() > 0);
            number.set(was);
            Due.answer("mended: wrong()", 0, map.wrong());
        }
    }

    private static void breakOne(BinMap map, String path, int[] row, int index, int value) {
        int was = row[index];
        row[index] = value;
        Due.holds("wrong() with " + path + "[" + index + "] " + value + " is not 0", map.wrong() > 0);
        row[index] = was;
        Due.answer("mended: wrong()", 0, map.wrong());
    }

    /** Two neighbours change their spots in a chain whose links are all right: the order is not. */
    private static void swappedInPlace(int mode, int function, int step, int keys) {
        BinMap map = Maps.made(mode, function, 0);
        map.fill(0, step, keys);
        int[] heads = new Inside(map, "bins.heads").row();
        int[] next = new Inside(map, "bins.next").row();
        int[] previous = new Inside(map, "bins.previous").row();
        int slot = heads[0];
        for (int i = 0; i + 1 < keys; i++) {
            int behind = next[slot];
            swap(heads, next, previous, slot);
            Due.answer("KEYS " + i + " and " + (i + 1) + " of " + keys + " swapped in MODE " + mode + ": wrong()",
                    1, map.wrong());
            swap(heads, next, previous, behind);
            Due.answer("mended: wrong()", 0, map.wrong());
            slot = next[slot];
        }
        Due.answer("no slot is left in the chain", 0, next[slot]);
    }

    /** All at PLACE 0: the slot and the one behind it, whose previous may be the last of the chain. */
    private static void swap(int[] heads, int[] next, int[] previous, int slot) {
        int behind = next[slot];
        int to = next[behind];
        int from = previous[slot];
        boolean isHead = heads[0] == slot;
        if (isHead) {
            heads[0] = behind;
        } else {
            next[from] = behind;
        }
        next[behind] = slot;
        next[slot] = to;
        previous[slot] = behind;
        previous[behind] = isHead && to == 0 ? slot : from;
        previous[to == 0 ? heads[0] : to] = slot;
    }

    /** In the line KEYS that share a PLACE change theirs, while the bins stay as they came. */
    private static void swappedInLine(int mode) {
        BinMap map = Maps.made(mode, 1, 0);
        map.fill(0, 4, KEYS);
        int[] before = new Inside(map, "line.before").row();
        int[] behind = new Inside(map, "line.behind").row();
        Inside first = new Inside(map, "line.first");
        int head = first.number();
        int second = behind[head];
        int third = behind[second];
        first.set(second);
        before[second] = 0;
        behind[second] = head;
        before[head] = second;
        behind[head] = third;
        before[third] = head;
        Due.answer("the first two swapped in the line in MODE " + mode + ": wrong()", 1, map.wrong());
    }

    /** A touch moves a KEY in the line alone, and that is right. */
    private static void binsOfTouched() {
        BinMap map = filled(2, 1);
        for (int k = 0; k < KEYS; k += 3) {
            map.find(k, false);
            Due.answer("touched: wrong()", 0, map.wrong());
        }
    }

    private static void longBinsAreTrees() {
        BinMap map = new BinMap();
        map.make(0, 1, 0);
        int[] roots = new Inside(map, "bins.roots").row();
        int[] heights = new Inside(map, "bins.trees.heights").row();
        map.fill(0, 4, 8);
        Due.answer("eight KEYS: no tree", 0, roots[0]);
        map.put(32, 0);
        Due.holds("nine KEYS: a tree", roots[0] != 0);
        map.fill(0, 4, 2000);
        Due.holds("2000 KEYS that rise: at most 15 high", heights[roots[0]] <= 15);
        map.clear();
        map.fill(0, -4, 2000);
        Due.holds("2000 KEYS that fall: at most 15 high", heights[roots[0]] <= 15);
        map.make(0, 1, 0);
        map.fill(0, 4, 9);
        for (int k = 0; k < 36; k += 4) {
            map.find(k, true);
            Due.answer("wrong() as a tree goes", 0, map.wrong());
        }
        Due.answer("no KEYS: no tree", 0, roots[0]);
    }

    private static void rowsAreUsedAgain() {
        BinMap map = new BinMap();
        List<Object> made = Inside.allWithin(map);
        int fields = 0;
        for (Object each : made) {
            fields += Inside.fieldsOf(each);
        }
        Due.holds("a new object has " + fields + " fields and elements", fields <= MOST_FIELDS);
        for (int i = 0; i < 40; i++) {
            map.make(i % 3, i % 2, i % 3 == 2 ? 2000 : 0);
            map.fill(i, i, 2000);
            map.fill(-i, -i, 2000);
            map.find(map.at(0), true);
            map.clear();
        }
        List<Object> used = Inside.allWithin(map);
        Due.answer("objects and rows after a run", made.size(), used.size());
        for (int i = 0; i < made.size(); i++) {
            Due.holds("each is the one of the constructor", made.get(i) == used.get(i));
        }
    }
}
