import java.util.ArrayList;
import java.util.Comparator;
import java.util.List;
import java.util.NoSuchElementException;

/** The document's words over one list and a stable sort, to compare BinMap with. */
final class PlainMap {
    private static final int MOST_KEYS = 2000;

    private static final class Pair {
        final int key;
        int number;

        Pair(int key, int number) {
            this.key = key;
            this.number = number;
        }
    }

    /** As KEYS came, in MODE 2 as they were touched last. */
    private final List<Pair> pairs = new ArrayList<>();
    private int mode = 0;
    private int function = 0;
    private int most = 0;
    private int room = 16;

    int make(int newMode, int newFunction, int newMost) {
        boolean mostIsRight = newMode == 2 ? newMost >= 1 && newMost <= MOST_KEYS : newMost == 0;
        if (newMode < 0 || newMode > 2 || newFunction < 0 || newFunction > 2 || !mostIsRight) {
            throw new IllegalArgumentException();
        }
        int had = clear();
        mode = newMode;
        function = newFunction;
        most = newMost;
        room = 16;
        return had;
    }

    long put(int k, int x) {
        Pair pair = pairOf(k);
        if (pair != null) {
            long had = pair.number;
            pair.number = x;
            touch(pair);
            return had;
        }
        if (mode != 2 && pairs.size() == MOST_KEYS) {
            throw new ArithmeticException();
        }
        pairs.add(new Pair(k, x));
        if (pairs.size() > room / 4 * 3) {
            room *= 2;
        }
        if (mode == 2 && pairs.size() > most) {
            pairs.remove(0);
        }
        return 1L << 32;
    }

    int find(int k, boolean take) {
        Pair pair = pairOf(k);
        if (pair == null) {
            throw new NoSuchElementException();
        }
        touch(pair);
        if (take) {
            pairs.remove(pair);
        }
        return pair.number;
    }

    boolean has(int k) {
        return pairOf(k) != null;
    }

    int fill(int x, int step, int n) {
        if (n < 0 || n > MOST_KEYS) {
            throw new IllegalArgumentException();
        }
        try {
            for (int i = 0; i < n; i++) {
                put(x + i * step, i);
            }
        } catch (ArithmeticException noRoom) {
            return pairs.size();
        }
        return pairs.size();
    }

    int at(int i) {
        if (i < 0 || i >= pairs.size()) {
            throw new NoSuchElementException();
        }
        return inOrder().get(i).key;
    }

    int after(int k) {
        List<Pair> order = inOrder();
        for (int i = 0; i + 1 < order.size(); i++) {
            if (order.get(i).key == k) {
                return order.get(i + 1).key;
            }
        }
        throw new NoSuchElementException();
    }

    int size() {
        return pairs.size();
    }

    int clear() {
        int had = pairs.size();
        pairs.clear();
        return had;
    }

    int hash() {
        int h = 1;
        for (Pair pair : inOrder()) {
            h = 31 * h + pair.key;
            h = 31 * h + pair.number;
        }
        return h;
    }

    private void touch(Pair pair) {
        if (mode == 2) {
            pairs.remove(pair);
            pairs.add(pair);
        }
    }

    private Pair pairOf(int k) {
        for (Pair pair : pairs) {
            if (pair.key == k) {
                return pair;
            }
        }
        return null;
    }

    private List<Pair> inOrder() {
        List<Pair> order = new ArrayList<>(pairs);
        if (mode == 0) {
            order.sort(Comparator.comparingInt(pair -> placeOf(pair.key)));
        }
        return order;
    }

    private int placeOf(int key) {
        int code = key;
        if (function == 1) {
            code = key & 3;
        } else if (function == 2) {
            code = key * -1640531527;
        }
        return Math.floorMod(code ^ (code >>> 16), room);
    }
}
