import java.util.NoSuchElementException;

/** What several tests ask of a BinMap: to be made, to be in an order, to refuse a call. */
final class Maps {
    static final long NOT_THERE = 4294967296L;
    static final int MIN = Integer.MIN_VALUE;
    static final int MAX = Integer.MAX_VALUE;

    private Maps() {
    }

    static BinMap made(int mode, int function, int most) {
        BinMap map = new BinMap();
        map.make(mode, function, most);
        return map;
    }

    /** MOST for a MODE that may have none. */
    static int mostFor(int mode, int most) {
        return mode == 2 ? most : 0;
    }

    /** With these KEYS, which come one after the other, with NUMBERS 0, 1, .. */
    static BinMap with(BinMap map, int... keys) {
        for (int i = 0; i < keys.length; i++) {
            Due.answer("put(" + keys[i] + ", " + i + ")", NOT_THERE, map.put(keys[i], i));
        }
        return map;
    }

    /** The map has these KEYS and no others, in this order. */
    static void order(String what, BinMap map, int... keys) {
        Due.answer(what + ": size()", keys.length, map.size());
        for (int i = 0; i < keys.length && i < map.size(); i++) {
            Due.answer(what + ": at(" + i + ")", keys[i], map.at(i));
        }
        for (int i = 0; i + 1 < keys.length && i + 1 < map.size(); i++) {
            if (map.has(keys[i]) && map.at(map.size() - 1) != keys[i]) {
                Due.answer(what + ": after(" + keys[i] + ")", keys[i + 1], map.after(keys[i]));
            }
        }
        Due.throwing(what + ": at(size)", NoSuchElementException.class, () -> map.at(keys.length));
        Due.answer(what + ": wrong()", 0, map.wrong());
    }

    /** The call throws, and the KEYS, their NUMBERS and their order are as before. */
    static void refused(String name, Class<? extends RuntimeException> want, BinMap map, Due.Call call) {
        int size = map.size();
        int hash = map.hash();
        Due.throwing(name, want, call);
        Due.answer(name + " is refused and changes nothing: size()", size, map.size());
        Due.answer(name + " is refused and changes nothing: hash()", hash, map.hash());
        Due.answer(name + " is refused and changes nothing: wrong()", 0, map.wrong());
    }
}
