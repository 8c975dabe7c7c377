/** Two maps of the same calls, of which one alone has been asked for what must be refused. */
final class Twins {
    private final String name;
    private final BinMap untouched;
    private final BinMap asked;

    interface Making {
        BinMap map();
    }

    interface Asking {
        long of(BinMap map);
    }

    private Twins(String name, Making making) {
        this.name = name;
        untouched = making.map();
        asked = making.map();
    }

    /** The call throws; then both maps answer the same for as long as they are used. */
    static void refused(String name, Class<? extends RuntimeException> want, Making making, Asking call) {
        Twins twins = new Twins(name, making);
        Due.throwing(name, want, () -> call.of(twins.asked));
        twins.now();
        twins.later();
    }

    /** The call answers, and then both maps answer the same for as long as they are used. */
    static void unmoved(String name, long want, Making making, Asking call) {
        Twins twins = new Twins(name, making);
        Due.answer(name, want, call.of(twins.asked));
        twins.now();
        twins.later();
    }

    private void now() {
        same("size()", BinMap::size);
        same("hash()", BinMap::hash);
        Due.answer(name + ", then wrong()", 0, asked.wrong());
        int size = untouched.size();
        for (int i = -1; i <= size; i += 1 + size / 10) {
            int each = i;
            same("at(" + i + ")", map -> map.at(each));
        }
        if (size > 0) {
            int first = untouched.at(0);
            same("has(" + first + ")", map -> map.has(first) ? 1 : 0);
            same("after(" + first + ")", map -> map.after(first));
        }
    }

    /** What holds no KEY shows here: MODE, function, MOST, ROOM and the slots that are free. */
    private void later() {
        comeAndGo();
        changed("fill(-500, 17, 40)", map -> map.fill(-500, 17, 40));
        changed("fill(9, -1, 2000)", map -> map.fill(9, -1, 2000));
        changed("put(77777, 1)", map -> map.put(77777, 1));
        changed("clear()", BinMap::clear);
        changed("fill(32, -16, 5)", map -> map.fill(32, -16, 5));
        changed("fill(5000, -5, 700)", map -> map.fill(5000, -5, 700));
        changed("make(0, 0, 0)", map -> map.make(0, 0, 0));
        changed("fill(48, -8, 12)", map -> map.fill(48, -8, 12));
        Due.answer(name + ", at the end wrong()", 0, asked.wrong());
    }

    private void comeAndGo() {
        for (int i = 0; i < 16; i++) {
            int key = 7919 * i + 3;
            changed("put(" + key + ", 5)", map -> map.put(key, 5));
        }
        if (untouched.size() > 0) {
            int first = untouched.at(0);
            changed("find(" + first + ", false)", map -> map.find(first, false));
            int middle = untouched.at(untouched.size() / 2);
            changed("find(" + middle + ", true)", map -> map.find(middle, true));
        }
    }

    private void changed(String call, Asking asking) {
        same(call, asking);
        same("hash() after " + call, BinMap::hash);
    }

    private void same(String call, Asking asking) {
        Due.same(name + ", then " + call, () -> asking.of(untouched), () -> asking.of(asked));
    }
}
