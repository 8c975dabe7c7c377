import java.util.NoSuchElementException;

/** The boundary cases of promises 1 to 12; above each test stands its sentence. */
public final class PromiseEdgesTest {
    private static final long NOT_THERE = Maps.NOT_THERE;
    private static final int MIN = Maps.MIN;
    private static final int MAX = Maps.MAX;
    private static final int MOST_KEYS = 2000;
    private static final Class<NoSuchElementException> NONE = NoSuchElementException.class;
    private static final Class<ArithmeticException> FULL = ArithmeticException.class;
    private static final Class<IllegalArgumentException> RANGE = IllegalArgumentException.class;

    public static void main(String[] args) {
        newObjectHasNoKeys();
        newObjectIsByPlacesOfTheKeys();
        makeTakesWhatIsInRange();
        makeRefusesAModeOutOfRange();
        makeRefusesAFunctionOutOfRange();
        makeRefusesAMostOutOfRange();
        makeRefusesAMostWithoutMode2();
        makeHoldsFromNowOn();
        makeLeavesNoKeys();
        makeSetsRoomTo16();
        makeAnswersHowManyThereWere();
        putChangesTheNumberAlone();
        putRefusesMoreThan2000();
        putOfOneThatIsThereIsNotRefused();
        putInMode2IsNotRefused();
        putAnswersTheNumberThatItHad();
        findAnswersTheNumber();
        findRefusesWhatIsNotThere();
        findTakes();
        hasAnswersForEachKey();
        fillTakesNoneTo2000();
        fillRefusesNOutOfRange();
        fillWraps();
        fillMeetsKeysAgain();
        fillNumbersFromNought();
        fillEndsWhereThereIsNoRoom();
        fillInMode2HasAlwaysRoom();
        fillAnswersHowManyThereAre();
        atFromTheFirstToTheLast();
        atRefusesWhereThereIsNone();
        afterFromTheFirstToTheLast();
        afterRefusesWhatIsNotThere();
        afterRefusesTheLast();
        sizeFromNoneTo2000();
        clearLeavesNoKeys();
        clearLeavesRoom();
        clearLeavesModeFunctionAndMost();
        clearAnswersHowManyThereWere();
        hashFromOneOn();
        hashTakesTheKeyFirst();
        hashGoesByTheOrder();
        hashWraps();
        wrongIsNoughtInAMapThatIsRight();
        Due.finish("PromiseEdgesTest");
    }

    private static BinMap filled(int mode, int function, int most, int keys) {
        BinMap map = Maps.made(mode, function, most);
        Due.answer("fill(0, 1, " + keys + ")", keys, map.fill(0, 1, keys));
        return map;
    }

    /** Promise 1, "no KEYS": what each call answers then. */
    private static void newObjectHasNoKeys() {
        BinMap map = new BinMap();
        Due.answer("new: size()", 0, map.size());
        Due.answer("new: hash()", 1, map.hash());
        Due.answer("new: wrong()", 0, map.wrong());
        Due.answer("new: clear()", 0, map.clear());
        Due.answer("new: fill(0, 0, 0)", 0, map.fill(0, 0, 0));
        Due.holds("new: not has(0)", !map.has(0));
        Maps.refused("new: at(0)", NONE, map, () -> map.at(0));
        Maps.refused("new: after(0)", NONE, map, () -> map.after(0));
        Maps.refused("new: find(0, false)", NONE, map, () -> map.find(0, false));
        Maps.refused("new: find(0, true)", NONE, map, () -> map.find(0, true));
        Due.answer("new: make", 0, map.make(0, 0, 0));
        Due.answer("new: put(0, 0)", NOT_THERE, new BinMap().put(0, 0));
    }

    /** Promise 1, "MODE 0, function 0": not as they came, nor as touched, nor by another function. */
    private static void newObjectIsByPlacesOfTheKeys() {
        BinMap map = Maps.with(new BinMap(), 9, 4, 20, 3);
        map.find(4, false);
        Maps.order("new", map, 3, 4, 20, 9);
        BinMap full = new BinMap();
        Due.answer("new: fill(0, 1, 2000)", MOST_KEYS, full.fill(0, 1, MOST_KEYS));
        Maps.refused("new: it can be full", FULL, full, () -> full.put(-1, 0));
    }

    /** Promise 2, "mode 0 .. 2, function 0 .. 2, most 1 .. 2000 for MODE 2, else 0": the ends. */
    private static void makeTakesWhatIsInRange() {
        for (int function = 0; function <= 2; function++) {
            for (int most : new int[] {1, 2, 1999, MOST_KEYS}) {
                BinMap map = filled(1, 0, 0, 3);
                Due.answer("make(2, " + function + ", " + most + ")", 3, map.make(2, function, most));
                Due.answer("then fill", most, map.fill(0, 1, MOST_KEYS));
            }
            for (int mode = 0; mode <= 1; mode++) {
                BinMap map = filled(2, 0, 5, 3);
                Due.answer("make(" + mode + ", " + function + ", 0)", 3, map.make(mode, function, 0));
                Due.answer("then fill", MOST_KEYS, map.fill(0, 1, MOST_KEYS));
            }
        }
    }

    private static void makeRefused(int mode, int function, int most) {
        String call = "make(" + mode + ", " + function + ", " + most + ")";
        Twins.refused(call, RANGE, () -> filled(2, 0, 5, 5), map -> map.make(mode, function, most));
        Twins.refused(call, RANGE, () -> filled(0, 1, 0, 40), map -> map.make(mode, function, most));
    }

    /** Promise 2, "mode 0 .. 2". */
    private static void makeRefusesAModeOutOfRange() {
        for (int mode : new int[] {-1, 3, MIN, MAX}) {
            makeRefused(mode, 0, 0);
            makeRefused(mode, 0, 1);
        }
    }

    /** Promise 2, "function 0 .. 2". */
    private static void makeRefusesAFunctionOutOfRange() {
        for (int function : new int[] {-1, 3, MIN, MAX}) {
            makeRefused(0, function, 0);
            makeRefused(1, function, 0);
            makeRefused(2, function, 1);
        }
    }

    /** Promise 2, "most 1 .. 2000 for MODE 2". */
    private static void makeRefusesAMostOutOfRange() {
        for (int most : new int[] {0, 2001, -1, MIN, MAX}) {
            makeRefused(2, 0, most);
            makeRefused(2, 2, most);
        }
    }

    /** Promise 2, "else 0 (anything else is out of range)". */
    private static void makeRefusesAMostWithoutMode2() {
        for (int most : new int[] {1, -1, MOST_KEYS, MIN, MAX}) {
            makeRefused(0, 0, most);
            makeRefused(1, 1, most);
        }
        makeRefused(3, 3, 2001);
        makeRefused(-1, -1, -1);
    }

    /** Promise 2, "these from now on": whatever they were before. */
    private static void makeHoldsFromNowOn() {
        for (int before = 0; before <= 2; before++) {
            BinMap map = filled(before, before, Maps.mostFor(before, 30), 30);
            map.make(0, 0, 0);
            Maps.order("MODE 0, function 0", Maps.with(map, 7, 5, 6), 5, 6, 7);
            map.make(0, 1, 0);
            Maps.order("MODE 0, function 1", Maps.with(map, 7, 5, 6, 4, 8), 4, 8, 5, 6, 7);
            map.make(0, 2, 0);
            Maps.order("MODE 0, function 2", Maps.with(map, 1, 2, 3, 4), 4, 2, 3, 1);
            map.make(1, 0, 0);
            Maps.order("MODE 1", Maps.with(map, 7, 5, 6), 7, 5, 6);
            map.make(2, 0, 3);
            Maps.order("MODE 2, MOST 3", Maps.with(map, 7, 5, 6, 4), 5, 6, 4);
            map.make(2, 0, 2);
            Maps.order("MODE 2, MOST 2", Maps.with(map, 7, 5, 6, 4), 6, 4);
            map.make(1, 0, 0);
            Due.answer("MODE 1 has no MOST", 20, map.fill(0, 1, 20));
        }
    }

    /** Promise 2, "no KEYS": a KEY that was there comes anew, and in a tree as well. */
    private static void makeLeavesNoKeys() {
        BinMap map = filled(0, 1, 0, 60);
        map.make(0, 1, 0);
        Maps.order("made", map);
        Due.answer("made: hash()", 1, map.hash());
        for (int k = 0; k < 60; k++) {
            Due.holds("made: not has(" + k + ")", !map.has(k));
        }
        Maps.refused("made: find(7)", NONE, map, () -> map.find(7, false));
        Due.answer("made: put(7)", NOT_THERE, map.put(7, 1));
        Maps.order("made: put(7)", map, 7);
    }

    /** Promise 2, "ROOM is 16": also if it was larger, or if it was so already. */
    private static void makeSetsRoomTo16() {
        for (int keys : new int[] {0, 12, 13, 700, MOST_KEYS}) {
            BinMap map = filled(0, 0, 0, keys);
            map.make(0, 0, 0);
            Maps.order("ROOM 16 after " + keys + " KEYS", Maps.with(map, 15, 16, 0), 16, 0, 15);
            map.fill(1, 1, 10);
            Due.answer("thirteen KEYS: ROOM 32", 16, map.at(12));
        }
        BinMap cleared = filled(0, 0, 0, 500);
        cleared.clear();
        cleared.make(0, 0, 0);
        Maps.order("ROOM 16 after clear() and make", Maps.with(cleared, 15, 16, 0), 16, 0, 15);
        BinMap came = filled(1, 0, 0, 500);
        came.make(0, 0, 0);
        Maps.order("ROOM 16 after MODE 1", Maps.with(came, 15, 16, 0), 16, 0, 15);
    }

    /** Promise 2, "Answers how many KEYS there were". */
    private static void makeAnswersHowManyThereWere() {
        for (int keys : new int[] {0, 1, 12, 13, 1999, MOST_KEYS}) {
            Due.answer("make on " + keys, keys, filled(0, 0, 0, keys).make(1, 0, 0));
            Due.answer("make on " + keys + ", MODE 2", keys, filled(2, 0, MOST_KEYS, keys).make(2, 0, 1));
        }
        BinMap map = filled(2, 0, 3, 3);
        map.put(9, 0);
        map.find(9, true);
        Due.answer("make on those that are left", 2, map.make(0, 0, 0));
        Due.answer("make again", 0, map.make(0, 0, 0));
    }

    /** Promise 3, "KEY k has NUMBER x; it comes if it was not there": the others keep theirs. */
    private static void putChangesTheNumberAlone() {
        for (int mode = 0; mode <= 2; mode++) {
            BinMap map = filled(mode, 1, Maps.mostFor(mode, 40), 40);
            map.put(20, 777);
            Due.answer("size()", 40, map.size());
            for (int k = 0; k < 40; k++) {
                Due.answer("NUMBER of " + k, k == 20 ? 777 : k, map.find(k, false));
            }
        }
    }

    /** Promise 3, "more than 2000: ArithmeticException". */
    private static void putRefusesMoreThan2000() {
        for (int mode = 0; mode <= 1; mode++) {
            for (int function = 0; function <= 2; function++) {
                int m = mode;
                int f = function;
                for (int key : new int[] {MOST_KEYS, -1, MIN, MAX}) {
                    Twins.refused("put(" + key + ", 1) in a full map of MODE " + m, FULL,
                            () -> filled(m, f, 0, MOST_KEYS), map -> map.put(key, 1));
                }
                BinMap map = filled(m, f, 0, MOST_KEYS);
                map.find(5, true);
                Due.answer("1999: the KEY comes", NOT_THERE, map.put(-1, 1));
                Maps.refused("2000: it does not", FULL, map, () -> map.put(5, 1));
            }
        }
    }

    /** The same sentence: a KEY that is there makes no more of them. */
    private static void putOfOneThatIsThereIsNotRefused() {
        for (int mode = 0; mode <= 1; mode++) {
            BinMap map = filled(mode, 2, 0, MOST_KEYS);
            for (int key : new int[] {0, 1000, 1999}) {
                Due.answer("put(" + key + ", -5) in a full map", key, map.put(key, -5));
                Due.answer("put(" + key + ", 9) in a full map", -5, map.put(key, 9));
            }
            Due.answer("size()", MOST_KEYS, map.size());
        }
    }

    /** Promise 3, "(not in MODE 2)": the first one goes instead. */
    private static void putInMode2IsNotRefused() {
        for (int function = 0; function <= 2; function++) {
            BinMap map = filled(2, function, MOST_KEYS, MOST_KEYS);
            for (int i = 0; i < 5; i++) {
                Due.answer("put in a full map of MODE 2", NOT_THERE, map.put(-1 - i, 1));
                Due.answer("size()", MOST_KEYS, map.size());
                Due.answer("the first", i + 1, map.at(0));
                Due.answer("wrong()", 0, map.wrong());
            }
        }
    }

    /** Promise 3, "Answers the NUMBER that it had, 4294967296 if it was not there". */
    private static void putAnswersTheNumberThatItHad() {
        int[] numbers = {0, -1, 1, MIN, MAX, -2, 65536};
        for (int mode = 0; mode <= 2; mode++) {
            BinMap map = Maps.made(mode, 0, Maps.mostFor(mode, 1));
            long had = 4294967296L;
            for (int x : numbers) {
                Due.answer("put(3, " + x + ")", had, map.put(3, x));
                had = x;
            }
            map.find(3, true);
            Due.answer("put(3, 1) when it went", 4294967296L, map.put(3, 1));
            map.clear();
            Due.answer("put(3, 1) when cleared", 4294967296L, map.put(3, 1));
        }
    }

    /** Promise 4, "The NUMBER of KEY k": the last that it was given, of whatever sign. */
    private static void findAnswersTheNumber() {
        for (int mode = 0; mode <= 2; mode++) {
            BinMap map = filled(mode, 1, Maps.mostFor(mode, 40), 40);
            for (int x : new int[] {0, -1, MIN, MAX}) {
                map.put(9, x);
                Due.answer("find(9)", x, map.find(9, false));
                Due.answer("find(9) again", x, map.find(9, false));
            }
            Due.answer("it stays: size()", 40, map.size());
        }
    }

    /** Promise 4, "there is none: NoSuchElementException". */
    private static void findRefusesWhatIsNotThere() {
        for (int mode = 0; mode <= 2; mode++) {
            int m = mode;
            for (int key : new int[] {-1, 40, 44, MIN, MAX}) {
                String name = "find(" + key + ") in MODE " + m;
                Twins.refused(name, NONE, () -> filled(m, 1, Maps.mostFor(m, 40), 40), map -> map.find(key, false));
                Twins.refused(name + ", take", NONE, () -> filled(m, 1, Maps.mostFor(m, 40), 40),
                        map -> map.find(key, true));
                Twins.refused(name + " of none", NONE, () -> filled(m, 0, Maps.mostFor(m, 40), 0),
                        map -> map.find(key, true));
            }
            BinMap map = filled(m, 0, Maps.mostFor(m, 3), 3);
            map.find(1, true);
            Maps.refused("find of what went", NONE, map, () -> map.find(1, false));
            Maps.refused("take of what went", NONE, map, () -> map.find(1, true));
            map.clear();
            Maps.refused("find of what was cleared", NONE, map, () -> map.find(0, false));
        }
        BinMap touched = filled(2, 0, 3, 3);
        touched.put(9, 0);
        Maps.refused("find of the one that went beyond MOST", NONE, touched, () -> touched.find(0, false));
    }

    /** Promise 4, "It goes if take": the first, one in the middle, the last, the only one. */
    private static void findTakes() {
        for (int mode = 0; mode <= 2; mode++) {
            for (int function = 0; function <= 1; function++) {
                BinMap map = Maps.with(Maps.made(mode, function, Maps.mostFor(mode, 5)), 0, 4, 8, 12, 13);
                Due.answer("take the first", 0, map.find(0, true));
                Maps.order("the first went", map, 4, 8, 12, 13);
                Due.answer("take one in the middle", 2, map.find(8, true));
                Maps.order("the middle one went", map, 4, 12, 13);
                Due.answer("take the last", 4, map.find(13, true));
                Maps.order("the last went", map, 4, 12);
                map.find(12, true);
                Due.answer("take the only one", 1, map.find(4, true));
                Maps.order("all went", map);
            }
        }
    }

    /** Promise 5, "Whether KEY k is there": it came, it went, it never was. */
    private static void hasAnswersForEachKey() {
        for (int mode = 0; mode <= 2; mode++) {
            for (int function = 0; function <= 2; function++) {
                BinMap map = filled(mode, function, Maps.mostFor(mode, 50), 50);
                map.find(0, true);
                map.find(49, true);
                for (int k = -5; k < 55; k++) {
                    Due.answer("has(" + k + ")", k >= 1 && k <= 48 ? 1 : 0, map.has(k) ? 1 : 0);
                }
                Due.holds("not has(min)", !map.has(MIN));
                Due.holds("not has(max)", !map.has(MAX));
            }
        }
    }

    /** Promise 6, "n 0 .. 2000": the ends. */
    private static void fillTakesNoneTo2000() {
        for (int mode = 0; mode <= 2; mode++) {
            BinMap map = Maps.made(mode, 0, Maps.mostFor(mode, MOST_KEYS));
            Due.answer("fill(5, 1, 0)", 0, map.fill(5, 1, 0));
            Maps.order("none came", map);
            Due.answer("fill(5, 1, 1)", 1, map.fill(5, 1, 1));
            Maps.order("one came", map, 5);
            Due.answer("fill(5, 1, 2000)", MOST_KEYS, map.fill(5, 1, MOST_KEYS));
            Due.holds("the last came", map.has(2004));
            Due.holds("no more came", !map.has(2005));
            int hash = map.hash();
            Due.answer("fill(9999, 1, 0) in a full map", MOST_KEYS, map.fill(9999, 1, 0));
            Due.answer("which changes nothing: hash()", hash, map.hash());
        }
    }

    /** Promise 6, "n 0 .. 2000": anything else is out of range, whatever there is room for. */
    private static void fillRefusesNOutOfRange() {
        for (int mode = 0; mode <= 2; mode++) {
            int m = mode;
            for (int n : new int[] {-1, 2001, MIN, MAX}) {
                for (int keys : new int[] {0, 12, MOST_KEYS}) {
                    Twins.refused("fill(7, 1, " + n + ") in MODE " + m + " with " + keys, RANGE,
                            () -> filled(m, 0, Maps.mostFor(m, MOST_KEYS), keys), map -> map.fill(7, 1, n));
                }
                Twins.refused("fill(7, 0, " + n + ")", RANGE,
                        () -> filled(m, 0, Maps.mostFor(m, 9), 9), map -> map.fill(7, 0, n));
            }
        }
    }

    /** Promise 6, "(they wrap)": upwards, downwards, and by the widest steps. */
    private static void fillWraps() {
        BinMap map = Maps.made(1, 0, 0);
        map.fill(MAX - 1, 1, 4);
        Maps.order("upwards", map, MAX - 1, MAX, MIN, MIN + 1);
        map.clear();
        map.fill(MIN + 1, -1, 4);
        Maps.order("downwards", map, MIN + 1, MIN, MAX, MAX - 1);
        map.clear();
        map.fill(1, MAX, 4);
        Maps.order("by the largest step", map, 1, MIN, -1, MAX - 1);
        map.clear();
        map.fill(-1, MIN, 2);
        Maps.order("by the least step", map, -1, MAX);
        map.clear();
        map.fill(0, 1 << 30, 4);
        Maps.order("by a quarter of all", map, 0, 1 << 30, MIN, -(1 << 30));
    }

    /** Promise 6, "as by put": a KEY met again has its later NUMBER and did not come anew. */
    private static void fillMeetsKeysAgain() {
        for (int mode = 0; mode <= 2; mode++) {
            BinMap map = Maps.made(mode, 0, Maps.mostFor(mode, 5));
            Due.answer("step 0", 1, map.fill(7, 0, MOST_KEYS));
            Maps.order("step 0", map, 7);
            Due.answer("step 0: the last NUMBER", 1999, map.find(7, false));
            map.clear();
            Due.answer("a step that comes round", 4, map.fill(1, 1 << 30, 10));
            Due.answer("KEY 1: NUMBER 8", 8, map.find(1, false));
            Due.answer("KEY 1 + 2^30: NUMBER 9", 9, map.find(1 + (1 << 30), false));
            Due.answer("KEY 1 + 2^31: NUMBER 6", 6, map.find(1 + MIN, false));
            map.clear();
            map.put(2, 50);
            Due.answer("one that was there", 3, map.fill(1, 1, 3));
            Due.answer("has the NUMBER of fill", 1, map.find(2, false));
        }
        BinMap came = Maps.with(Maps.made(1, 0, 0), 3, 9);
        came.fill(1, 1, 4);
        Maps.order("MODE 1: it stays where it is", came, 3, 9, 1, 2, 4);
        BinMap touched = Maps.with(Maps.made(2, 0, 9), 3, 9);
        touched.fill(1, 1, 4);
        Maps.order("MODE 2: it is touched", touched, 9, 1, 2, 3, 4);
    }

    /** Promise 6, "with NUMBERS 0, 1, ..": at each fill anew, up to 1999. */
    private static void fillNumbersFromNought() {
        BinMap map = Maps.made(0, 0, 0);
        map.put(-1, 5);
        map.fill(100, 3, 20);
        for (int i = 0; i < 20; i++) {
            Due.answer("NUMBER " + i, i, map.find(100 + 3 * i, false));
        }
        map.fill(1000, -1, 5);
        Due.answer("the next fill begins with 0", 0, map.find(1000, false));
        Due.answer("the others keep theirs", 5, map.find(-1, false));
        map.clear();
        map.fill(0, -1, MOST_KEYS);
        Due.answer("the last of 2000", 1999, map.find(-1999, false));
    }

    /** Promise 6, "up to the first one for which there is no room": it and all behind it don't come. */
    private static void fillEndsWhereThereIsNoRoom() {
        for (int mode = 0; mode <= 1; mode++) {
            BinMap map = filled(mode, 0, 0, 1998);
            Due.answer("two come, the third does not", MOST_KEYS, map.fill(3000, 1, 5));
            Due.holds("has(3001)", map.has(3001));
            Due.holds("not has(3002)", !map.has(3002));
            Due.answer("the second has its NUMBER", 1, map.find(3001, false));
            int hash = map.hash();
            Due.answer("no room for the first", MOST_KEYS, map.fill(5000, -1, MOST_KEYS));
            Due.answer("nothing has changed: hash()", hash, map.hash());
            Due.answer("one that is there, one that is not", MOST_KEYS, map.fill(1997, 1, 2));
            Due.answer("the first was put", 0, map.find(1997, false));
            Due.answer("one that is not, one that is there", MOST_KEYS, map.fill(-1, 1, 3));
            Due.answer("KEY 1 was not put", 1, map.find(1, false));
            Due.answer("all are there, none needs room", MOST_KEYS, map.fill(1997, -1, 1998));
            Due.answer("the last was put", 1997, map.find(0, false));
            Due.answer("wrong()", 0, map.wrong());
        }
        BinMap whole = filled(1, 2, 0, 1000);
        Due.answer("room for all of them", MOST_KEYS, whole.fill(1000, 1, 1000));
        Due.holds("the last came", whole.has(1999));
    }

    /** The same sentence in MODE 2, where there is room for each. */
    private static void fillInMode2HasAlwaysRoom() {
        for (int most : new int[] {1, 2, 1999, MOST_KEYS}) {
            BinMap map = filled(2, 0, most, most);
            Due.answer("MOST " + most, most, map.fill(-1, -1, MOST_KEYS));
            Due.answer("the last", -MOST_KEYS, map.at(most - 1));
            Due.answer("the first", most - 2001, map.at(0));
            Due.answer("wrong()", 0, map.wrong());
        }
    }

    /** Promise 6, "Answers how many KEYS there are": not how many came, nor n. */
    private static void fillAnswersHowManyThereAre() {
        BinMap map = filled(1, 0, 0, 10);
        Due.answer("five more", 15, map.fill(100, 1, 5));
        Due.answer("five that are there", 15, map.fill(100, 1, 5));
        Due.answer("none", 15, map.fill(0, 0, 0));
        Due.answer("one of two", 16, map.fill(104, 1, 2));
    }

    /** Promise 7, "KEY i, from 0, in the order". */
    private static void atFromTheFirstToTheLast() {
        Due.answer("the only one", 5, Maps.with(new BinMap(), 5).at(0));
        for (int mode = 0; mode <= 2; mode++) {
            BinMap map = filled(mode, 0, Maps.mostFor(mode, MOST_KEYS), MOST_KEYS);
            for (int i : new int[] {0, 1, 999, 1998, 1999}) {
                Due.answer("at(" + i + ") of 2000", i, map.at(i));
            }
        }
    }

    /** Promise 7, "there is none: NoSuchElementException": behind the last, and before the first. */
    private static void atRefusesWhereThereIsNone() {
        for (int mode = 0; mode <= 2; mode++) {
            int m = mode;
            for (int keys : new int[] {0, 1, 12, MOST_KEYS}) {
                for (int i : new int[] {keys, keys + 1, -1, MIN, MAX}) {
                    Twins.refused("at(" + i + ") of " + keys + " in MODE " + m, NONE,
                            () -> filled(m, 0, Maps.mostFor(m, MOST_KEYS), keys), map -> map.at(i));
                }
            }
            BinMap map = filled(m, 0, Maps.mostFor(m, 3), 3);
            map.find(2, true);
            Maps.refused("at(2) when one of three went", NONE, map, () -> map.at(2));
            map.clear();
            Maps.refused("at(0) when cleared", NONE, map, () -> map.at(0));
        }
    }

    /** Promise 8, "The KEY behind KEY k in the order". */
    private static void afterFromTheFirstToTheLast() {
        for (int mode = 0; mode <= 2; mode++) {
            for (int function = 0; function <= 2; function++) {
                BinMap map = filled(mode, function, Maps.mostFor(mode, 100), 100);
                for (int i = 0; i < 99; i++) {
                    Due.answer("after(at(" + i + "))", map.at(i + 1), map.after(map.at(i)));
                }
            }
        }
        BinMap wide = Maps.with(new BinMap(), 0, 16, 15);
        Due.answer("in the same PLACE", 16, wide.after(0));
        Due.answer("over empty PLACES to the last", 15, wide.after(16));
    }

    /** Promise 8, "k is not there: NoSuchElementException": in no PLACE, or in one with others. */
    private static void afterRefusesWhatIsNotThere() {
        for (int mode = 0; mode <= 2; mode++) {
            int m = mode;
            for (int key : new int[] {-1, 12, 16, 28, MIN, MAX}) {
                Twins.refused("after(" + key + ") in MODE " + m, NONE,
                        () -> filled(m, 0, Maps.mostFor(m, 12), 12), map -> map.after(key));
                Twins.refused("after(" + key + ") of none in MODE " + m, NONE,
                        () -> filled(m, 0, Maps.mostFor(m, 12), 0), map -> map.after(key));
            }
            BinMap map = filled(m, 1, Maps.mostFor(m, 40), 40);
            map.find(4, true);
            Maps.refused("after one that went", NONE, map, () -> map.after(4));
            Maps.refused("after one that a tree has not", NONE, map, () -> map.after(44));
        }
    }

    /** Promise 8, "or the last: NoSuchElementException": nor does it begin again. */
    private static void afterRefusesTheLast() {
        for (int mode = 0; mode <= 2; mode++) {
            for (int function = 0; function <= 2; function++) {
                for (int keys : new int[] {1, 12, 13, 40, MOST_KEYS}) {
                    int m = mode;
                    int f = function;
                    BinMap map = filled(m, f, Maps.mostFor(m, MOST_KEYS), keys);
                    int last = map.at(keys - 1);
                    Twins.refused("after the last of " + keys + " in MODE " + m, NONE,
                            () -> filled(m, f, Maps.mostFor(m, MOST_KEYS), keys), each -> each.after(last));
                }
            }
        }
        BinMap end = Maps.with(new BinMap(), 15, 31);
        Maps.refused("after the last in the last PLACE", NONE, end, () -> end.after(31));
        BinMap touched = filled(2, 0, 3, 3);
        touched.find(0, false);
        Maps.refused("after the one touched last", NONE, touched, () -> touched.after(0));
        Due.answer("after the one that was the last", 0, touched.after(2));
    }

    /** Promise 9, "How many KEYS". */
    private static void sizeFromNoneTo2000() {
        for (int mode = 0; mode <= 2; mode++) {
            BinMap map = Maps.made(mode, 0, Maps.mostFor(mode, MOST_KEYS));
            Due.answer("none", 0, map.size());
            map.put(1, 1);
            Due.answer("one", 1, map.size());
            map.put(1, 2);
            Due.answer("still one", 1, map.size());
            map.find(1, false);
            Due.answer("one that was found", 1, map.size());
            map.find(1, true);
            Due.answer("none again", 0, map.size());
            map.fill(0, 1, 1999);
            Due.answer("1999", 1999, map.size());
            map.put(-1, 0);
            Due.answer("2000", MOST_KEYS, map.size());
            map.fill(-1, -1, MOST_KEYS);
            Due.answer("2000 and no more", MOST_KEYS, map.size());
        }
    }

    /** Promise 10, "No KEYS": of one, of many, of those in trees. */
    private static void clearLeavesNoKeys() {
        for (int mode = 0; mode <= 2; mode++) {
            for (int function = 0; function <= 2; function++) {
                BinMap map = filled(mode, function, Maps.mostFor(mode, MOST_KEYS), 60);
                map.clear();
                Maps.order("cleared", map);
                Due.answer("cleared: hash()", 1, map.hash());
                for (int k = 0; k < 60; k++) {
                    Due.holds("cleared: not has(" + k + ")", !map.has(k));
                }
                Maps.refused("cleared: find(7)", NONE, map, () -> map.find(7, true));
                Maps.refused("cleared: after(7)", NONE, map, () -> map.after(7));
                Due.answer("cleared: put(7)", NOT_THERE, map.put(7, 1));
                Due.answer("cleared: all come", MOST_KEYS, map.fill(0, 1, MOST_KEYS));
                Due.answer("cleared: wrong()", 0, map.wrong());
            }
        }
    }

    /** Promise 10, "(ROOM stays)": each ROOM that there can be. */
    private static void clearLeavesRoom() {
        for (int room = 32; room <= 4096; room *= 2) {
            BinMap map = filled(0, 0, 0, room / 8 * 3 + 1);
            map.clear();
            Maps.order("ROOM " + room, Maps.with(map, room - 1, room / 2, room, 0), room, 0, room / 2, room - 1);
            map.clear();
            Maps.order("ROOM " + room + " again", Maps.with(map, room / 2, room), room, room / 2);
        }
        BinMap first = filled(0, 0, 0, 12);
        first.clear();
        Maps.order("ROOM 16", Maps.with(first, 15, 16, 0), 16, 0, 15);
        BinMap wide = filled(0, 0, 0, 13);
        wide.clear();
        wide.put(32, 0);
        wide.fill(1, 1, 23);
        Due.answer("24 KEYS: ROOM is 32 yet", 32, wide.at(0));
        wide.put(24, 0);
        Due.answer("25 KEYS: ROOM is 64", 32, wide.at(24));
    }

    /** Promise 10 names no change of MODE, function or MOST. */
    private static void clearLeavesModeFunctionAndMost() {
        BinMap four = filled(0, 1, 0, 5);
        four.clear();
        Maps.order("function 1", Maps.with(four, 3, 8, 7, 4), 8, 4, 3, 7);
        BinMap product = filled(0, 2, 0, 5);
        product.clear();
        Maps.order("function 2", Maps.with(product, 1, 2, 3, 4), 4, 2, 3, 1);
        BinMap came = filled(1, 0, 0, 5);
        came.clear();
        Maps.with(came, 9, 8, 7);
        came.find(9, false);
        Maps.order("MODE 1", came, 9, 8, 7);
        BinMap touched = filled(2, 0, 3, 3);
        touched.clear();
        Maps.with(touched, 9, 8, 7);
        touched.find(9, false);
        Maps.order("MODE 2", touched, 8, 7, 9);
        Maps.order("MOST 3", Maps.with(touched, 6), 7, 9, 6);
    }

    /** Promise 10, "Answers how many there were". */
    private static void clearAnswersHowManyThereWere() {
        for (int mode = 0; mode <= 2; mode++) {
            for (int keys : new int[] {0, 1, 12, 13, 1999, MOST_KEYS}) {
                BinMap map = filled(mode, 0, Maps.mostFor(mode, MOST_KEYS), keys);
                Due.answer("clear() of " + keys, keys, map.clear());
                Due.answer("clear() again", 0, map.clear());
            }
        }
    }

    /** Promise 11, "From h 1 on": that is the answer when there are no KEYS. */
    private static void hashFromOneOn() {
        for (int mode = 0; mode <= 2; mode++) {
            BinMap map = Maps.made(mode, 0, Maps.mostFor(mode, 3));
            Due.answer("hash() of none", 1, map.hash());
            map.put(0, 0);
            Due.answer("hash() of 0 with 0", 961, map.hash());
            Due.answer("hash() again", 961, map.hash());
            map.find(0, true);
            Due.answer("hash() of none again", 1, map.hash());
        }
    }

    /** Promise 11, "31 h + KEY and 31 h + NUMBER, one after the other". */
    private static void hashTakesTheKeyFirst() {
        Due.answer("KEY 1, NUMBER 0", 992, Maps.with(new BinMap(), 1).hash());
        BinMap map = new BinMap();
        map.put(0, 1);
        Due.answer("KEY 0, NUMBER 1", 962, map.hash());
        map.put(2, 3);
        Due.answer("KEY 2, NUMBER 3 behind it", 31 * (31 * 962 + 2) + 3, map.hash());
    }

    /** Promise 11, "in the order": of each MODE. */
    private static void hashGoesByTheOrder() {
        int twoThenOne = 31 * (31 * (31 * (31 + 2)) + 1) + 1;
        int oneThenTwo = 31 * (31 * (31 * (31 + 1) + 1) + 2);
        Due.answer("MODE 0", oneThenTwo, Maps.with(Maps.made(0, 0, 0), 2, 1).hash());
        Due.answer("MODE 1", twoThenOne, Maps.with(Maps.made(1, 0, 0), 2, 1).hash());
        BinMap touched = Maps.with(Maps.made(2, 0, 2), 2, 1);
        Due.answer("MODE 2", twoThenOne, touched.hash());
        touched.find(2, false);
        Due.answer("MODE 2, touched", oneThenTwo, touched.hash());
    }

    /** Promise 11, "it wraps": the same in long arithmetic, cut to 32 bits at the end. */
    private static void hashWraps() {
        BinMap far = new BinMap();
        far.put(MAX, MIN);
        Due.answer("hash() of max with min", (int) (31L * (31L + MAX) + MIN), far.hash());
        BinMap full = filled(1, 0, 0, MOST_KEYS);
        long h = 1;
        for (int i = 0; i < MOST_KEYS; i++) {
            h = (31 * (31 * h + i) + i) % (1L << 32);
        }
        Due.answer("hash() of 2000", (int) h, full.hash());
    }

    /** Promise 12, "0 in a map that is right": empty, with one, at each edge of ROOM, full. */
    private static void wrongIsNoughtInAMapThatIsRight() {
        Due.answer("wrong() of a new one", 0, new BinMap().wrong());
        for (int mode = 0; mode <= 2; mode++) {
            for (int function = 0; function <= 2; function++) {
                for (int keys : new int[] {0, 1, 8, 9, 12, 13, 36, 37, 1536, 1537, MOST_KEYS}) {
                    BinMap map = filled(mode, function, Maps.mostFor(mode, Math.max(1, keys)), keys);
                    Due.answer("wrong() of " + keys, 0, map.wrong());
                    map.fill(-1, -1, 20);
                    Due.answer("wrong() of 20 more", 0, map.wrong());
                    map.find(map.at(0), true);
                    Due.answer("wrong() of one less", 0, map.wrong());
                }
            }
        }
    }
}
