import java.util.Arrays;
import java.util.NoSuchElementException;

/**
 * A hash map whose order is told: by PLACES, as KEYS came, or as they were touched last.
 *
 * <p>A KEY lies in a slot, an index into rows that are made once. Slot NONE is no slot: its
 * fields in the rows stay 0, so that reading behind an end is harmless.
 */
public final class BinMap {
    private static final int BY_PLACES = 0;
    private static final int AS_TOUCHED = 2;
    private static final int LAST_FUNCTION = 2;
    private static final int MOST_KEYS = 2000;
    private static final long NOT_THERE = 4294967296L;

    private static final int NONE = 0;
    /** NONE, the KEYS, and one more, as in MODE 2 a KEY comes before the first one goes. */
    private static final int SLOTS = MOST_KEYS + 2;

    private final Bins bins;
    private final Line line;
    private final int[] numbers;
    private int mode;
    private int most;

    public BinMap() {
        bins = new Bins();
        line = new Line();
        numbers = new int[SLOTS];
        mode = BY_PLACES;
        most = 0;
    }

    public int make(int mode, int function, int most) throws IllegalArgumentException {
        if (!isMode(mode, most) || function < 0 || function > LAST_FUNCTION) {
            throw new IllegalArgumentException();
        }
        int had = line.count();
        line.drain();
        bins.begin(function);
        this.mode = mode;
        this.most = most;
        return had;
    }

    public long put(int k, int x) throws ArithmeticException {
        int slot = bins.slotOf(k);
        if (!fits(slot)) {
            throw new ArithmeticException();
        }
        if (slot == NONE) {
            come(k, x);
            return NOT_THERE;
        }
        int had = numbers[slot];
        change(slot, x);
        return had;
    }

    public int find(int k, boolean take) throws NoSuchElementException {
        int slot = bins.slotOf(k);
        if (slot == NONE) {
            throw new NoSuchElementException();
        }
        int number = numbers[slot];
        if (take) {
            go(slot);
        } else {
            touch(slot);
        }
        return number;
    }

    public boolean has(int k) {
        return bins.slotOf(k) != NONE;
    }

    public int fill(int x, int step, int n) throws IllegalArgumentException {
        if (n < 0 || n > MOST_KEYS) {
            throw new IllegalArgumentException();
        }
        int key = x;
        for (int i = 0; i < n; i++) {
            int slot = bins.slotOf(key);
            if (!fits(slot)) {
                break;
            }
            if (slot == NONE) {
                come(key, i);
            } else {
                change(slot, i);
            }
            key += step;
        }
        return line.count();
    }

    public int at(int i) throws NoSuchElementException {
        if (i < 0 || i >= line.count()) {
            throw new NoSuchElementException();
        }
        int slot = firstSlot();
        for (int passed = 0; passed < i; passed++) {
            slot = slotBehind(slot);
        }
        return bins.keyOf(slot);
    }

    public int after(int k) throws NoSuchElementException {
        int slot = bins.slotOf(k);
        int behind = slot == NONE ? NONE : slotBehind(slot);
        if (behind == NONE) {
            throw new NoSuchElementException();
        }
        return bins.keyOf(behind);
    }

    public int size() {
        return line.count();
    }

    public int clear() {
        int had = line.count();
        line.drain();
        bins.drain();
        return had;
    }

    public int hash() {
        int h = 1;
        int slot = firstSlot();
        for (int i = 0; i < line.count(); i++) {
            h = 31 * h + bins.keyOf(slot);
            h = 31 * h + numbers[slot];
            slot = slotBehind(slot);
        }
        return h;
    }

    public int wrong() {
        int faults = line.faults() + bins.faults(line.count());
        int limit = mode == AS_TOUCHED ? most : MOST_KEYS;
        return faults + faultsBetween() + (line.count() > limit ? 1 : 0);
    }

    private static boolean isMode(int mode, int most) {
        if (mode == AS_TOUCHED) {
            return most >= 1 && most <= MOST_KEYS;
        }
        return mode >= BY_PLACES && mode < AS_TOUCHED && most == 0;
    }

    private boolean fits(int slot) {
        return slot != NONE || mode == AS_TOUCHED || line.count() < MOST_KEYS;
    }

    private void come(int k, int x) {
        int slot = line.join();
        numbers[slot] = x;
        bins.name(slot, k);
        bins.add(slot);
        if (bins.isTight(line.count())) {
            bins.stretch();
            // In MODE 0 the line stands as KEYS came, and so they come into their new PLACES.
            int again = line.first();
            for (int i = 0; i < line.count(); i++) {
                bins.add(again);
                again = line.behind(again);
            }
        }
        if (mode == AS_TOUCHED && line.count() > most) {
            go(line.first());
        }
    }

    private void change(int slot, int x) {
        numbers[slot] = x;
        touch(slot);
    }

    private void touch(int slot) {
        if (mode == AS_TOUCHED) {
            line.moveToEnd(slot);
        }
    }

    private void go(int slot) {
        bins.remove(slot);
        line.leave(slot);
    }

    private int firstSlot() {
        return mode == BY_PLACES ? bins.firstFrom(0) : line.first();
    }

    private int slotBehind(int slot) {
        return mode == BY_PLACES ? bins.behind(slot) : line.behind(slot);
    }

    /** Where the line and the bins, each right by itself, do not tell the same. */
    private int faultsBetween() {
        int faults = 0;
        line.rank();
        int slot = line.first();
        for (int i = 0; i < line.count(); i++) {
            if (bins.slotOf(bins.keyOf(slot)) != slot) {
                faults++;
            }
            if (isOvertaken(slot)) {
                faults++;
            }
            slot = line.behind(slot);
        }
        return faults;
    }

    /** In MODE 2 no order is told by bins, and a touch leaves them as they are. */
    private boolean isOvertaken(int slot) {
        int next = bins.nextInPlace(slot);
        return mode != AS_TOUCHED && next != NONE && line.rankOf(next) < line.rankOf(slot);
    }

    /** The slots in use, as their KEYS came or, in MODE 2, were touched last; and the free ones. */
    private static final class Line {
        private final int[] before;
        private final int[] behind;
        /** How many stand before a slot; right only just after rank(), as nothing else needs it. */
        private final int[] ranks;
        private int first;
        private int last;
        private int count;
        private int free;

        Line() {
            before = new int[SLOTS];
            behind = new int[SLOTS];
            ranks = new int[SLOTS];
            for (int slot = 1; slot < SLOTS - 1; slot++) {
                behind[slot] = slot + 1;
            }
            first = NONE;
            last = NONE;
            count = 0;
            free = 1;
        }

        int count() {
            return count;
        }

        int first() {
            return first;
        }

        int behind(int slot) {
            return behind[slot];
        }

        int rankOf(int slot) {
            return ranks[slot];
        }

        void rank() {
            int slot = first;
            for (int i = 0; i < count; i++) {
                ranks[slot] = i;
                slot = behind[slot];
            }
        }

        /** Puts a free slot at the end; there is one, as at most 2000 are in use before. */
        int join() {
            int slot = free;
            free = behind[slot];
            append(slot);
            count++;
            return slot;
        }

        void leave(int slot) {
            unlink(slot);
            behind[slot] = free;
            free = slot;
            count--;
        }

        void moveToEnd(int slot) {
            unlink(slot);
            append(slot);
        }

        void drain() {
            if (last != NONE) {
                behind[last] = free;
                free = first;
            }
            first = NONE;
            last = NONE;
            count = 0;
        }

        int faults() {
            int faults = 0;
            int seen = 0;
            int from = NONE;
            int slot = first;
            while (slot != NONE && seen < SLOTS) {
                if (before[slot] != from) {
                    faults++;
                }
                from = slot;
                slot = behind[slot];
                seen++;
            }
            if (from != last) {
                faults++;
            }
            if (seen != count) {
                faults++;
            }
            if (seen + freeSlots() != SLOTS - 1) {
                faults++;
            }
            return faults;
        }

        private int freeSlots() {
            int seen = 0;
            int slot = free;
            while (slot != NONE && seen < SLOTS) {
                slot = behind[slot];
                seen++;
            }
            return seen;
        }

        private void append(int slot) {
            before[slot] = last;
            behind[slot] = NONE;
            if (last == NONE) {
                first = slot;
            } else {
                behind[last] = slot;
            }
            last = slot;
        }

        private void unlink(int slot) {
            int from = before[slot];
            int to = behind[slot];
            if (from == NONE) {
                first = to;
            } else {
                behind[from] = to;
            }
            if (to == NONE) {
                last = from;
            } else {
                before[to] = from;
            }
        }
    }

    /** A chain of slots at each PLACE, as they came; a long chain has a tree beside it. */
    private static final class Bins {
        private static final int FIRST_ROOM = 16;
        /** Enough for one KEY more than the most: three quarters of it are 3072. */
        private static final int LAST_ROOM = 4096;
        private static final int LONGEST_WITHOUT_TREE = 8;
        /** Lower than what nine KEYS make, so that a bin does not change its form at each call. */
        private static final int LOWEST_TREE = 3;

        private final Trees trees;
        private final int[] next;
        /** The first of a chain has the last one here, which saves a row of last ones. */
        private final int[] previous;
        private final int[] heads;
        private final int[] roots;
        private int room;
        private int function;

        Bins() {
            trees = new Trees();
            next = new int[SLOTS];
            previous = new int[SLOTS];
            heads = new int[LAST_ROOM];
            roots = new int[LAST_ROOM];
            room = FIRST_ROOM;
            function = 0;
        }

        void begin(int newFunction) {
            drain();
            room = FIRST_ROOM;
            function = newFunction;
        }

        void drain() {
            Arrays.fill(heads, NONE);
            Arrays.fill(roots, NONE);
        }

        boolean isTight(int count) {
            return count * 4 > room * 3 && room < LAST_ROOM;
        }

        /** Doubles ROOM; the bins are empty then. */
        void stretch() {
            drain();
            room = room * 2;
        }

        int keyOf(int slot) {
            return trees.keyOf(slot);
        }

        void name(int slot, int key) {
            trees.name(slot, key);
        }

        int slotOf(int key) {
            int place = placeOf(key);
            if (roots[place] != NONE) {
                return trees.slotOf(roots[place], key);
            }
            int slot = heads[place];
            for (int i = 0; i < LONGEST_WITHOUT_TREE && slot != NONE; i++) {
                if (trees.keyOf(slot) == key) {
                    return slot;
                }
                slot = next[slot];
            }
            return NONE;
        }

        int firstFrom(int place) {
            for (int p = place; p < room; p++) {
                if (heads[p] != NONE) {
                    return heads[p];
                }
            }
            return NONE;
        }

        int nextInPlace(int slot) {
            return next[slot];
        }

        int behind(int slot) {
            if (next[slot] != NONE) {
                return next[slot];
            }
            return firstFrom(placeOf(trees.keyOf(slot)) + 1);
        }

        void add(int slot) {
            int place = placeOf(trees.keyOf(slot));
            append(place, slot);
            if (roots[place] != NONE) {
                roots[place] = trees.with(roots[place], slot);
            } else if (isLong(place)) {
                int each = heads[place];
                for (int i = 0; i <= LONGEST_WITHOUT_TREE; i++) {
                    roots[place] = trees.with(roots[place], each);
                    each = next[each];
                }
            }
        }

        void remove(int slot) {
            int place = placeOf(trees.keyOf(slot));
            unlink(place, slot);
            if (roots[place] != NONE) {
                int root = trees.without(roots[place], slot);
                roots[place] = trees.heightOf(root) < LOWEST_TREE ? NONE : root;
            }
        }

        int faults(int count) {
            int faults = 0;
            int seen = 0;
            for (int place = 0; place < room; place++) {
                faults += faultsAt(place);
                seen += lengthOf(place);
            }
            if (seen != count) {
                faults++;
            }
            if (isTight(count)) {
                faults++;
            }
            return faults;
        }

        private int faultsAt(int place) {
            int faults = 0;
            int from = NONE;
            int slot = heads[place];
            for (int i = 0; i < SLOTS && slot != NONE; i++) {
                int key = trees.keyOf(slot);
                if (placeOf(key) != place || slotOf(key) != slot) {
                    faults++;
                }
                if (from != NONE && previous[slot] != from) {
                    faults++;
                }
                from = slot;
                slot = next[slot];
            }
            if (from != NONE && previous[heads[place]] != from) {
                faults++;
            }
            return faults + treeFaultsAt(place);
        }

        /** Each slot of the chain is looked at alone, so that a broken tree can't lead astray. */
        private int treeFaultsAt(int place) {
            int length = lengthOf(place);
            if (roots[place] == NONE) {
                return length > LONGEST_WITHOUT_TREE ? 1 : 0;
            }
            int faults = trees.heightOf(roots[place]) < LOWEST_TREE ? 1 : 0;
            int branches = 0;
            int slot = heads[place];
            for (int i = 0; i < length; i++) {
                faults += trees.faultsAt(slot);
                branches += trees.branchesOf(slot);
                slot = next[slot];
            }
            return branches == length - 1 ? faults : faults + 1;
        }

        private int lengthOf(int place) {
            int length = 0;
            int slot = heads[place];
            while (slot != NONE && length < SLOTS) {
                slot = next[slot];
                length++;
            }
            return length;
        }

        private boolean isLong(int place) {
            int slot = heads[place];
            for (int i = 0; i < LONGEST_WITHOUT_TREE && slot != NONE; i++) {
                slot = next[slot];
            }
            return slot != NONE;
        }

        private int placeOf(int key) {
            int code = codeOf(key);
            return (code ^ code >>> 16) & (room - 1);
        }

        private int codeOf(int key) {
            switch (function) {
                case 1:
                    return key & 3;
                case 2:
                    return key * -1640531527;
                default:
                    return key;
            }
        }

        private void append(int place, int slot) {
            int head = heads[place];
            next[slot] = NONE;
            if (head == NONE) {
                heads[place] = slot;
                previous[slot] = slot;
            } else {
                int last = previous[head];
                next[last] = slot;
                previous[slot] = last;
                previous[head] = slot;
            }
        }

        private void unlink(int place, int slot) {
            int head = heads[place];
            int from = previous[slot];
            int to = next[slot];
            if (slot == head) {
                heads[place] = to;
            } else {
                next[from] = to;
            }
            if (to != NONE) {
                previous[to] = from;
            } else if (slot != head) {
                previous[head] = from;
            }
        }
    }

    /** Search trees by KEY over the slots: both sides of a slot differ by at most one in height. */
    private static final class Trees {
        /** Far above the 15 levels that a tree of 2001 slots can have. */
        private static final int DEEPEST = 40;

        private final int[] keys;
        private final int[] left;
        private final int[] right;
        private final int[] heights;
        /** The slots from the root down to where a tree changes. */
        private final int[] path;

        Trees() {
            keys = new int[SLOTS];
            left = new int[SLOTS];
            right = new int[SLOTS];
            heights = new int[SLOTS];
            path = new int[DEEPEST];
        }

        int keyOf(int slot) {
            return keys[slot];
        }

        void name(int slot, int key) {
            keys[slot] = key;
        }

        int heightOf(int root) {
            return heights[root];
        }

        int slotOf(int root, int key) {
            int slot = root;
            for (int i = 0; i < DEEPEST && slot != NONE; i++) {
                if (keys[slot] == key) {
                    return slot;
                }
                slot = key < keys[slot] ? left[slot] : right[slot];
            }
            return NONE;
        }

        /** Answers the root of the tree with the slot in it. */
        int with(int root, int slot) {
            left[slot] = NONE;
            right[slot] = NONE;
            heights[slot] = 1;
            int depth = descend(root, slot);
            return climb(depth, keys[slot], slot);
        }

        /** Answers the root of the tree without the slot, which is in it. */
        int without(int root, int slot) {
            int depth = descend(root, slot);
            if (right[slot] == NONE) {
                return climb(depth, keys[slot], left[slot]);
            }
            int spot = depth;
            int heir = right[slot];
            depth++;
            while (left[heir] != NONE && depth < DEEPEST) {
                path[depth] = heir;
                depth++;
                heir = left[heir];
            }
            path[spot] = heir;
            left[heir] = left[slot];
            return climb(depth, keys[heir], right[heir]);
        }

        int faultsAt(int slot) {
            int faults = 0;
            int low = left[slot];
            int high = right[slot];
            if (low != NONE && keys[low] >= keys[slot]) {
                faults++;
            }
            if (high != NONE && keys[high] <= keys[slot]) {
                faults++;
            }
            int lean = heights[low] - heights[high];
            if (lean < -1 || lean > 1) {
                faults++;
            }
            if (heights[slot] != heightOver(slot)) {
                faults++;
            }
            return faults;
        }

        int branchesOf(int slot) {
            return (left[slot] == NONE ? 0 : 1) + (right[slot] == NONE ? 0 : 1);
        }

        /** Writes the path to above the slot, or to above where it is to hang; answers its length. */
        private int descend(int root, int slot) {
            int depth = 0;
            int at = root;
            while (at != NONE && at != slot && depth < DEEPEST - 1) {
                path[depth] = at;
                depth++;
                at = keys[slot] < keys[at] ? left[at] : right[at];
            }
            return depth;
        }

        /** Hangs a subtree where the key belongs under the path, and balances up to the root. */
        private int climb(int depth, int key, int subtree) {
            int top = subtree;
            for (int i = depth - 1; i >= 0; i--) {
                int up = path[i];
                if (key < keys[up]) {
                    left[up] = top;
                } else {
                    right[up] = top;
                }
                top = balance(up);
            }
            return top;
        }

        private int balance(int top) {
            int lean = heights[left[top]] - heights[right[top]];
            if (lean >= -1 && lean <= 1) {
                heights[top] = heightOver(top);
                return top;
            }
            int up = lean > 1 ? liftFromLeft(top) : liftFromRight(top);
            heights[left[up]] = heightOver(left[up]);
            heights[right[up]] = heightOver(right[up]);
            heights[up] = heightOver(up);
            return up;
        }

        private int liftFromLeft(int top) {
            int low = left[top];
            int up = low;
            if (heights[left[low]] < heights[right[low]]) {
                up = right[low];
                right[low] = left[up];
                left[up] = low;
            }
            left[top] = right[up];
            right[up] = top;
            return up;
        }

        private int liftFromRight(int top) {
            int high = right[top];
            int up = high;
            if (heights[right[high]] < heights[left[high]]) {
                up = left[high];
                left[high] = right[up];
                right[up] = high;
            }
            right[top] = left[up];
            left[up] = top;
            return up;
        }

        private int heightOver(int slot) {
            int low = heights[left[slot]];
            int high = heights[right[slot]];
            return 1 + (low >= high ? low : high);
        }
    }
}
