import java.util.NoSuchElementException;

/**
 * "What is thrown .. A call that throws changes nothing": each call that can be refused, on maps of
 * each MODE and function that are empty, at an edge of ROOM, with trees within, cleared, or full.
 */
public final class RefusedTest {
    private static final int MIN = Maps.MIN;
    private static final int MAX = Maps.MAX;
    private static final int MOST_KEYS = 2000;
    private static final int[][] NO_MAKE = {
        {-1, 0, 0}, {3, 0, 0}, {3, 0, 1}, {0, -1, 0}, {1, 3, 0}, {0, 0, 1}, {1, 0, -1}, {2, 0, 0}, {2, 0, 2001},
        {2, 3, 1},
    };

    private final int mode;
    private final int function;
    private final int keys;
    private final boolean isCleared;

    private RefusedTest(int mode, int function, int keys, boolean isCleared) {
        this.mode = mode;
        this.function = function;
        this.keys = keys;
        this.isCleared = isCleared;
    }

    public static void main(String[] args) {
        for (int mode = 0; mode <= 2; mode++) {
            for (int function = 0; function <= 2; function++) {
                for (int keys : new int[] {0, 1, 12, 13, 40, MOST_KEYS}) {
                    new RefusedTest(mode, function, keys, false).all();
                }
                new RefusedTest(mode, function, 40, true).all();
            }
        }
        Due.finish("RefusedTest");
    }

    /** KEYS 0, 3, 6, .., the first of them touched once more; MOST is what is there. */
    private BinMap made() {
        BinMap map = Maps.made(mode, function, Maps.mostFor(mode, Math.max(1, keys)));
        map.fill(0, 3, keys);
        if (keys > 0) {
            map.find(0, false);
        }
        if (isCleared) {
            map.clear();
        }
        return map;
    }

    private void all() {
        make();
        fill();
        put();
        find();
        at();
        after();
    }

    private void refused(String call, Class<? extends RuntimeException> want, Twins.Asking asking) {
        String where = " in MODE " + mode + ", function " + function + ", of " + keys + (isCleared ? ", cleared" : "");
        Twins.refused(call + where, want, this::made, asking);
    }

    private void make() {
        for (int[] no : NO_MAKE) {
            refused("make(" + no[0] + ", " + no[1] + ", " + no[2] + ")", IllegalArgumentException.class,
                    map -> map.make(no[0], no[1], no[2]));
        }
    }

    private void fill() {
        for (int n : new int[] {-1, 2001, MIN, MAX}) {
            refused("fill(1, 1, " + n + ")", IllegalArgumentException.class, map -> map.fill(1, 1, n));
            refused("fill(0, 0, " + n + ")", IllegalArgumentException.class, map -> map.fill(0, 0, n));
        }
    }

    private void put() {
        if (keys == MOST_KEYS && mode != 2) {
            for (int key : new int[] {1, -1, MIN, MAX}) {
                refused("put(" + key + ", 1)", ArithmeticException.class, map -> map.put(key, 1));
            }
        }
    }

    private void find() {
        for (int key : new int[] {1, -3, 3 * keys, MAX}) {
            refused("find(" + key + ", false)", NoSuchElementException.class, map -> map.find(key, false));
            refused("find(" + key + ", true)", NoSuchElementException.class, map -> map.find(key, true));
        }
    }

    private void at() {
        int size = isCleared ? 0 : keys;
        for (int i : new int[] {size, -1, MIN, MAX}) {
            refused("at(" + i + ")", NoSuchElementException.class, map -> map.at(i));
        }
    }

    private void after() {
        for (int key : new int[] {1, -3, 3 * keys, MIN}) {
            refused("after(" + key + ")", NoSuchElementException.class, map -> map.after(key));
        }
        if (keys > 0 && !isCleared) {
            refused("after the last", NoSuchElementException.class, map -> map.after(map.at(keys - 1)));
        }
    }
}
