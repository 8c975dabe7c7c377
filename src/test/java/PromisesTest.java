import java.util.NoSuchElementException;

/** Each promise of the document by itself: ordinary inputs, its edges, wrong inputs. */
public final class PromisesTest {
    private static final long NOT_THERE = Maps.NOT_THERE;

    public static void main(String[] args) {
        newObject();
        make();
        makeOutOfRange();
        put();
        putIsFull();
        find();
        has();
        fill();
        fillOutOfRange();
        fillIsFull();
        at();
        after();
        size();
        clear();
        hash();
        wrong();
        placesOfEachFunction();
        roomDoubles();
        longBinsKeepTheOrder();
        touchedLast();
        mostKeys();
        Due.finish("PromisesTest");
    }

    private static void newObject() {
        BinMap map = new BinMap();
        Due.answer("new: size()", 0, map.size());
        Due.answer("new: hash()", 1, map.hash());
        Due.answer("new: wrong()", 0, map.wrong());
        Due.holds("new: not has(0)", !map.has(0));
        Maps.refused("new: at(0)", NoSuchElementException.class, map, () -> map.at(0));
        Maps.refused("new: after(0)", NoSuchElementException.class, map, () -> map.after(0));
        Maps.refused("new: find(0)", NoSuchElementException.class, map, () -> map.find(0, true));
        Due.answer("new: clear()", 0, map.clear());
        map.put(5, 0);
        map.put(20, 0);
        map.put(3, 0);
        Maps.order("new is MODE 0, function 0, ROOM 16", map, 3, 20, 5);
    }

    private static void make() {
        BinMap map = new BinMap();
        Due.answer("make on none", 0, map.make(1, 0, 0));
        map.fill(30, -10, 3);
        Maps.order("MODE 1", map, 30, 20, 10);
        Due.answer("make on three", 3, map.make(0, 0, 0));
        Due.answer("made: size()", 0, map.size());
        Due.holds("made: not has(30)", !map.has(30));
        map.fill(30, -10, 3);
        Maps.order("MODE 0", map, 20, 10, 30);
        map.fill(0, 1, 100);
        Due.answer("make on hundred", 100, map.make(0, 0, 0));
        map.put(33, 0);
        map.put(16, 0);
        map.put(1, 0);
        Maps.order("ROOM is 16 again", map, 16, 33, 1);
        Due.answer("make(2, 2, 1)", 3, map.make(2, 2, 1));
        Due.answer("make(2, 0, 2000)", 0, map.make(2, 0, 2000));
        Due.answer("make(1, 2, 0)", 0, map.make(1, 2, 0));
    }

    private static void makeOutOfRange() {
        int[][] bad = {
            {-1, 0, 0}, {3, 0, 0}, {Integer.MIN_VALUE, 0, 0}, {Integer.MAX_VALUE, 0, 0},
            {0, -1, 0}, {0, 3, 0}, {1, Integer.MIN_VALUE, 0}, {2, 3, 5}, {2, -1, 5},
            {0, 0, 1}, {0, 0, -1}, {1, 0, 1}, {1, 0, 2000}, {1, 0, -1},
            {2, 0, 0}, {2, 0, -1}, {2, 0, 2001}, {2, 0, Integer.MAX_VALUE}, {3, 0, 1},
        };
        BinMap map = Maps.made(2, 0, 3);
        map.fill(1, 1, 3);
        for (int[] b : bad) {
            String call = "make(" + b[0] + ", " + b[1] + ", " + b[2] + ")";
            Maps.refused(call, IllegalArgumentException.class, map, () -> map.make(b[0], b[1], b[2]));
        }
        map.put(2, 9);
        map.put(4, 9);
        Maps.order("MODE, function and MOST are as before", map, 3, 2, 4);
    }

    private static void put() {
        for (int mode = 0; mode <= 2; mode++) {
            BinMap map = Maps.made(mode, 0, mode == 2 ? 10 : 0);
            Due.answer("put(7, 3)", NOT_THERE, map.put(7, 3));
            Due.answer("put(7, -1)", 3, map.put(7, -1));
            Due.answer("put(7, min)", -1, map.put(7, Integer.MIN_VALUE));
            Due.answer("put(7, max)", Integer.MIN_VALUE, map.put(7, Integer.MAX_VALUE));
            Due.answer("put(7, 0)", Integer.MAX_VALUE, map.put(7, 0));
            Due.answer("put(7, 0) again", 0, map.put(7, 0));
            Due.answer("put once: size()", 1, map.size());
            Due.answer("put(min, 1)", NOT_THERE, map.put(Integer.MIN_VALUE, 1));
            Due.answer("put(max, 2)", NOT_THERE, map.put(Integer.MAX_VALUE, 2));
            Due.answer("find(min)", 1, map.find(Integer.MIN_VALUE, false));
            Due.answer("find(max)", 2, map.find(Integer.MAX_VALUE, false));
            Due.answer("put thrice: size()", 3, map.size());
        }
        BinMap came = Maps.made(1, 0, 0);
        came.fill(1, 1, 3);
        came.put(1, 5);
        Maps.order("put of a KEY that is there does not move it in MODE 1", came, 1, 2, 3);
        came.find(2, true);
        came.put(2, 0);
        Maps.order("a KEY that went comes as the last one", came, 1, 3, 2);
        BinMap places = Maps.made(0, 1, 0);
        places.fill(0, 4, 3);
        places.put(0, 5);
        Maps.order("nor within its PLACE in MODE 0", places, 0, 4, 8);
        places.find(0, true);
        places.put(0, 5);
        Maps.order("it comes last in its PLACE", places, 4, 8, 0);
    }

    private static void putIsFull() {
        for (int mode = 0; mode <= 1; mode++) {
            BinMap map = Maps.made(mode, 0, 0);
            map.fill(0, 1, 1999);
            Due.answer("put of KEY 2000", NOT_THERE, map.put(5000, 1));
            Maps.refused("put of one more", ArithmeticException.class, map, () -> map.put(5001, 1));
            Due.holds("nor is it there", !map.has(5001));
            Due.answer("put of one that is there", 1, map.put(5000, 2));
            map.find(0, true);
            Due.answer("put where one went", NOT_THERE, map.put(5001, 1));
            Due.answer("full: size()", 2000, map.size());
            Due.answer("full: wrong()", 0, map.wrong());
        }
        BinMap touched = Maps.made(2, 0, 2000);
        touched.fill(0, 1, 2000);
        Due.answer("MODE 2 is never full", NOT_THERE, touched.put(5000, 1));
        Due.answer("MODE 2: size()", 2000, touched.size());
        Due.holds("MODE 2: the first one went", !touched.has(0));
    }

    private static void find() {
        BinMap map = new BinMap();
        map.put(1, 10);
        map.put(17, 20);
        map.put(33, Integer.MIN_VALUE);
        Due.answer("find(17)", 20, map.find(17, false));
        Due.answer("find(17) stays", 20, map.find(17, false));
        Due.answer("find(17, take)", 20, map.find(17, true));
        Maps.refused("find of what went", NoSuchElementException.class, map, () -> map.find(17, false));
        Maps.refused("take of what went", NoSuchElementException.class, map, () -> map.find(17, true));
        Maps.order("the middle one went", map, 1, 33);
        Maps.refused("find(49)", NoSuchElementException.class, map, () -> map.find(49, true));
        Maps.order("a find that throws changes nothing", map, 1, 33);
        Due.answer("find(33, take)", Integer.MIN_VALUE, map.find(33, true));
        Maps.order("the last one went", map, 1);
        map.put(17, 1);
        map.find(1, true);
        Maps.order("the first one went", map, 17);
        map.find(17, true);
        Maps.order("all went", map);
    }

    private static void has() {
        BinMap map = Maps.made(2, 0, 3);
        map.fill(0, 16, 3);
        Due.holds("has(0)", map.has(0));
        Due.holds("has(16)", map.has(16));
        Due.holds("not has(48)", !map.has(48));
        Due.holds("not has(-16)", !map.has(-16));
        Maps.order("has touches nothing", map, 0, 16, 32);
        map.find(16, true);
        Due.holds("not has(16) when it went", !map.has(16));
    }

    private static void fill() {
        BinMap map = Maps.made(1, 0, 0);
        Due.answer("fill of none", 0, map.fill(5, 5, 0));
        Due.answer("fill(5, -5, 3)", 3, map.fill(5, -5, 3));
        Maps.order("fill(5, -5, 3)", map, 5, 0, -5);
        for (int i = 0; i < 3; i++) {
            Due.answer("NUMBER " + i, i, map.find(5 - 5 * i, false));
        }
        Due.answer("fill over what is there", 4, map.fill(0, -5, 3));
        Maps.order("fill over what is there", map, 5, 0, -5, -10);
        Due.answer("its first NUMBER", 0, map.find(0, false));
        Due.answer("its second NUMBER", 1, map.find(-5, false));
        Due.answer("step 0", 5, map.fill(77, 0, 50));
        Due.answer("step 0: the last NUMBER", 49, map.find(77, false));
        map.clear();
        Due.answer("it wraps", 3, map.fill(Integer.MAX_VALUE, 1, 3));
        Maps.order("it wraps", map, Integer.MAX_VALUE, Integer.MIN_VALUE, Integer.MIN_VALUE + 1);
        map.clear();
        Due.answer("a step that wraps onto itself", 2, map.fill(0, Integer.MIN_VALUE, 5));
        Due.answer("its NUMBERS", 4, map.find(0, false));
        Due.answer("its other NUMBER", 3, map.find(Integer.MIN_VALUE, false));
        Due.answer("MODE 2", 3, Maps.made(2, 0, 3).fill(0, 1, 2000));
    }

    private static void fillOutOfRange() {
        BinMap map = new BinMap();
        map.fill(0, 1, 5);
        for (int n : new int[] {-1, 2001, Integer.MIN_VALUE, Integer.MAX_VALUE}) {
            Maps.refused("fill(9, 1, " + n + ")", IllegalArgumentException.class, map, () -> map.fill(9, 1, n));
        }
        map.fill(0, 1, 2000);
        Maps.refused("fill when full", IllegalArgumentException.class, map, () -> map.fill(9, 1, 2001));
    }

    private static void fillIsFull() {
        BinMap map = Maps.made(1, 2, 0);
        map.fill(0, 1, 1990);
        Due.answer("up to where there is no room", 2000, map.fill(5000, 1, 20));
        Due.holds("the tenth came", map.has(5009));
        Due.holds("the next did not", !map.has(5010));
        Due.answer("the first one for which there is no room ends it", 2000, map.fill(-1, 1, 3));
        Due.answer("so that KEY 1 has its NUMBER", 1, map.find(1, false));
        Due.answer("those before it are put", 2000, map.fill(1999 - 10, 1, 100));
        Due.answer("KEY 1989 has a new NUMBER", 0, map.find(1989, false));
        Due.answer("full: wrong()", 0, map.wrong());
    }

    private static void at() {
        BinMap map = new BinMap();
        map.fill(15, -1, 3);
        Due.answer("at(0)", 13, map.at(0));
        Due.answer("at(2)", 15, map.at(2));
        for (int i : new int[] {3, -1, Integer.MIN_VALUE, Integer.MAX_VALUE}) {
            Maps.refused("at(" + i + ")", NoSuchElementException.class, map, () -> map.at(i));
        }
        BinMap touched = Maps.made(2, 0, 3);
        touched.fill(0, 1, 3);
        touched.at(0);
        Maps.order("at touches nothing", touched, 0, 1, 2);
    }

    private static void after() {
        BinMap map = new BinMap();
        map.fill(15, -1, 3);
        map.put(30, 0);
        Due.answer("after(13)", 14, map.after(13));
        Due.answer("after(14), in the same PLACE", 30, map.after(14));
        Due.answer("after(30)", 15, map.after(30));
        Maps.refused("after the last", NoSuchElementException.class, map, () -> map.after(15));
        Maps.refused("after one that is not there", NoSuchElementException.class, map, () -> map.after(12));
        Maps.refused("nor by its PLACE", NoSuchElementException.class, map, () -> map.after(29));
        BinMap touched = Maps.made(2, 0, 3);
        touched.fill(0, 1, 3);
        touched.after(0);
        Maps.order("after touches nothing", touched, 0, 1, 2);
        BinMap came = Maps.made(1, 0, 0);
        came.fill(9, -3, 3);
        Due.answer("MODE 1: after(9)", 6, came.after(9));
        Maps.refused("MODE 1: after(3)", NoSuchElementException.class, came, () -> came.after(3));
    }

    private static void size() {
        BinMap map = new BinMap();
        for (int i = 0; i < 50; i++) {
            map.put(i * i, i);
            Due.answer("size() as KEYS come", i + 1, map.size());
        }
        map.put(0, 5);
        Due.answer("size() when one changes", 50, map.size());
        for (int i = 0; i < 50; i++) {
            map.find(i * i, true);
            Due.answer("size() as KEYS go", 49 - i, map.size());
        }
    }

    private static void clear() {
        BinMap map = new BinMap();
        map.fill(0, 1, 13);
        Due.answer("clear()", 13, map.clear());
        Due.answer("cleared: size()", 0, map.size());
        Due.answer("cleared: hash()", 1, map.hash());
        Due.holds("cleared: not has(5)", !map.has(5));
        Due.answer("clear() again", 0, map.clear());
        map.put(31, 0);
        map.put(16, 0);
        map.put(0, 0);
        map.put(32, 0);
        Maps.order("ROOM stays 32", map, 0, 32, 16, 31);
        BinMap touched = Maps.made(2, 1, 2);
        touched.fill(0, 1, 2);
        Due.answer("MODE 2: clear()", 2, touched.clear());
        touched.fill(5, 1, 2);
        touched.find(5, false);
        touched.put(9, 0);
        Maps.order("MODE and MOST stay", touched, 5, 9);
        BinMap four = Maps.made(0, 1, 0);
        four.fill(0, 1, 20);
        four.clear();
        four.fill(8, -1, 9);
        Maps.order("function stays", four, 8, 4, 0, 5, 1, 6, 2, 7, 3);
    }

    private static void hash() {
        BinMap map = Maps.made(1, 0, 0);
        map.put(3, 4);
        Due.answer("hash of one", 31 * (31 + 3) + 4, map.hash());
        map.put(-7, 9);
        Due.answer("hash of two", 31 * (31 * (31 * (31 + 3) + 4) - 7) + 9, map.hash());
        map.make(0, 0, 0);
        map.put(9, 1);
        map.put(2, 5);
        Due.answer("hash in the order", 31 * (31 * (31 * (31 + 2) + 5) + 9) + 1, map.hash());
        map.clear();
        map.put(Integer.MAX_VALUE, Integer.MIN_VALUE);
        Due.answer("hash wraps", 31 * (31 + Integer.MAX_VALUE) + Integer.MIN_VALUE, map.hash());
        BinMap touched = Maps.made(2, 0, 5);
        touched.fill(0, 1, 3);
        touched.hash();
        Maps.order("hash touches nothing", touched, 0, 1, 2);
    }

    private static void wrong() {
        for (int function = 0; function <= 2; function++) {
            for (int mode = 0; mode <= 2; mode++) {
                BinMap map = Maps.made(mode, function, mode == 2 ? 1500 : 0);
                Due.answer("wrong() of none", 0, map.wrong());
                map.fill(0, 3, 2000);
                Due.answer("wrong() of many", 0, map.wrong());
                for (int k = 1500; k < 1800; k += 3) {
                    map.find(k, true);
                    Due.answer("wrong() as KEYS go", 0, map.wrong());
                }
                map.clear();
                Due.answer("wrong() when cleared", 0, map.wrong());
            }
        }
        BinMap touched = Maps.made(2, 0, 3);
        touched.fill(0, 1, 3);
        touched.wrong();
        Maps.order("wrong touches nothing", touched, 0, 1, 2);
    }

    private static void placesOfEachFunction() {
        BinMap itself = new BinMap();
        int[] keys = {65536, 0, -1, 131072, 16, 65537, Integer.MIN_VALUE, 1};
        for (int k : keys) {
            itself.put(k, 0);
        }
        Maps.order("function 0", itself, 0, -1, 16, 65537, Integer.MIN_VALUE, 65536, 1, 131072);
        BinMap four = Maps.made(0, 1, 0);
        four.fill(7, -2, 8);
        Maps.order("function 1", four, 5, 1, -3, -7, 7, 3, -1, -5);
        BinMap spread = Maps.made(0, 2, 0);
        spread.fill(0, 1, 6);
        Maps.order("function 2", spread, keysByPlace(16, 0, 1, 2, 3, 4, 5));
    }

    /** By Fibonacci hashing as the document has it, worked out with long arithmetic. */
    private static int[] keysByPlace(int room, int... keys) {
        int[] order = new int[keys.length];
        int n = 0;
        for (int place = 0; place < room; place++) {
            for (int k : keys) {
                long code = Math.floorMod(k * -1640531527L, 1L << 32);
                if (((code ^ (code >> 16)) % room) == place) {
                    order[n++] = k;
                }
            }
        }
        return order;
    }

    private static void roomDoubles() {
        for (int edge = 12; edge <= 1536; edge *= 2) {
            for (int n = edge; n <= edge + 1; n++) {
                BinMap map = new BinMap();
                PlainMap plain = new PlainMap();
                map.fill(-300, 7, n);
                plain.fill(-300, 7, n);
                Due.answer(n + " KEYS by PLACES: hash()", plain.hash(), map.hash());
            }
        }
        BinMap twelve = new BinMap();
        twelve.fill(16, -1, 12);
        Due.answer("twelve KEYS: 16 is first in ROOM 16", 16, twelve.at(0));
        twelve.put(4, 0);
        Due.answer("thirteen KEYS: 16 is last in ROOM 32", 16, twelve.at(12));
        twelve.find(4, true);
        twelve.find(5, true);
        Due.answer("ROOM stays when KEYS go", 16, twelve.at(10));
        BinMap most = new BinMap();
        most.fill(4095, -1, 1536);
        Due.answer("1536 KEYS: ROOM 2048", 4095 - 1535, most.at(0));
        most.put(0, 0);
        Due.answer("1537 KEYS: ROOM 4096", 0, most.at(0));
        most.fill(4096, 0, 1);
        Due.answer("KEY 4096 is behind 0", 4096, most.after(0));
    }

    private static void longBinsKeepTheOrder() {
        BinMap map = Maps.made(0, 1, 0);
        PlainMap plain = new PlainMap();
        plain.make(0, 1, 0);
        for (int i = 0; i < 30; i++) {
            int key = (i * 7 % 30) * 4;
            map.put(key, i);
            plain.put(key, i);
            Due.answer("hash() as a bin grows", plain.hash(), map.hash());
            Due.answer("wrong() as a bin grows", 0, map.wrong());
        }
        Due.answer("the first one is the one that came first", 0, map.at(0));
        Due.answer("the next one is the one that came next", 28, map.after(0));
        for (int i = 0; i < 30; i++) {
            int key = (i * 11 % 30) * 4;
            Due.answer("find in a long bin", plain.find(key, true), map.find(key, true));
            Due.answer("hash() as a bin shrinks", plain.hash(), map.hash());
            Due.answer("wrong() as a bin shrinks", 0, map.wrong());
        }
    }

    private static void touchedLast() {
        BinMap map = Maps.made(2, 0, 4);
        map.fill(1, 1, 4);
        Maps.order("as they came", map, 1, 2, 3, 4);
        map.find(2, false);
        Maps.order("by find", map, 1, 3, 4, 2);
        map.put(1, 0);
        Maps.order("by put", map, 3, 4, 2, 1);
        map.fill(4, 0, 1);
        Maps.order("by fill", map, 3, 2, 1, 4);
        map.find(4, false);
        Maps.order("the last one stays", map, 3, 2, 1, 4);
        map.has(3);
        map.at(0);
        map.after(3);
        map.size();
        map.hash();
        map.wrong();
        Maps.order("by no other call", map, 3, 2, 1, 4);
        map.put(9, 0);
        Maps.order("the first one goes", map, 2, 1, 4, 9);
        map.find(1, true);
        map.put(8, 0);
        Maps.order("none goes when there is room", map, 2, 4, 9, 8);
        BinMap came = Maps.made(1, 0, 0);
        came.fill(1, 1, 3);
        came.find(1, false);
        Maps.order("in MODE 1 find moves nothing", came, 1, 2, 3);
    }

    private static void mostKeys() {
        BinMap one = Maps.made(2, 0, 1);
        Due.answer("MOST 1: put(1, 1)", NOT_THERE, one.put(1, 1));
        Due.answer("MOST 1: put(2, 2)", NOT_THERE, one.put(2, 2));
        Maps.order("MOST 1", one, 2);
        Due.answer("MOST 1: put(2, 3)", 2, one.put(2, 3));
        Due.answer("MOST 1: put(1, 1) again", NOT_THERE, one.put(1, 1));
        Maps.order("MOST 1 again", one, 1);
        for (int most : new int[] {1, 12, 13, 1536, 1537, 2000}) {
            BinMap map = Maps.made(2, 1, most);
            Due.answer("MOST " + most, most, map.fill(-2000, 1, 2000));
            Due.answer("MOST " + most + " again", most, map.fill(0, 1, 2000));
            Due.answer("the first one", 2000 - most, map.at(0));
            Due.answer("the last one", 1999, map.at(most - 1));
            Due.answer("wrong()", 0, map.wrong());
        }
    }
}
