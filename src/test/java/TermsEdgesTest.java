/** The boundary cases of "What it is" and "Terms"; above each test stands its sentence. */
public final class TermsEdgesTest {
    private static final long NOT_THERE = Maps.NOT_THERE;
    private static final int MIN = Maps.MIN;
    private static final int MAX = Maps.MAX;
    private static final int MOST_KEYS = 2000;
    private static final int[] FAR = {MIN, MIN + 1, -65536, -1, 0, 1, 65535, 65536, MAX - 1, MAX};

    public static void main(String[] args) {
        lastCalls();
        keysAndNumbersAreInts();
        eachKeyOnce();
        atMost2000();
        roomComesBackWhenKeysGo();
        byPlacesNothingMovesAKey();
        asKeysCameNothingMovesAKey();
        touchedWhenTheyCome();
        touchedByPut();
        touchedByFind();
        touchedByFillAsByPut();
        touchedByNoOtherCall();
        noneGoesUpToMost();
        theFirstGoesBeyondMost();
        noneGoesUnlessAKeyComes();
        theFirstIsTheOneTouchedLongestAgo();
        mostOfOne();
        room16AtFirst();
        roomDoublesBeyondThreeQuarters();
        roomEndsAt4096();
        roomDoublesOnlyWhenAKeyComes();
        roomStaysWhenKeysGo();
        codeIsTheKey();
        codeIsTheLowestTwoBits();
        codeIsTheProduct();
        placeHasTheUpperHalf();
        placeIsNeverNegative();
        placesRise();
        samePlaceAsTheyCame();
        samePlaceAsTheyCameWhenRoomDoubles();
        samePlaceAsTheyCameInALongBin();
        allInOnePlace();
        outOfRangeComesFirst();
        Due.finish("TermsEdgesTest");
    }

    /** "An object is used for at most 512 calls after it has been made": the dearest ones, too. */
    private static void lastCalls() {
        for (int mode = 0; mode <= 2; mode++) {
            BinMap map = Maps.made(mode, 1, Maps.mostFor(mode, MOST_KEYS));
            for (int call = 2; call <= 510; call++) {
                int x = call * 4000;
                if (mode == 2 || call % 2 == 0) {
                    Due.answer("call " + call + ", fill", MOST_KEYS, map.fill(x, 4, MOST_KEYS));
                } else {
                    Due.answer("call " + call + ", clear()", MOST_KEYS, map.clear());
                }
            }
            Due.answer("call 511, wrong()", 0, map.wrong());
            BinMap fresh = Maps.made(mode, 1, Maps.mostFor(mode, MOST_KEYS));
            fresh.fill(510 * 4000, 4, MOST_KEYS);
            Due.answer("call 512, hash()", fresh.hash(), map.hash());
        }
    }

    /** "KEYS and NUMBERS are ints": the least and the largest as well. */
    private static void keysAndNumbersAreInts() {
        for (int mode = 0; mode <= 2; mode++) {
            for (int function = 0; function <= 2; function++) {
                BinMap map = Maps.made(mode, function, Maps.mostFor(mode, FAR.length));
                farKeys(map);
            }
        }
    }

    private static void farKeys(BinMap map) {
        for (int i = 0; i < FAR.length; i++) {
            Due.holds("not has(" + FAR[i] + ")", !map.has(FAR[i]));
            Due.answer("put(" + FAR[i] + ")", NOT_THERE, map.put(FAR[i], FAR[i]));
            Due.holds("has(" + FAR[i] + ")", map.has(FAR[i]));
        }
        Due.answer("all are there: size()", FAR.length, map.size());
        for (int i = 0; i < FAR.length; i++) {
            int other = FAR[FAR.length - 1 - i];
            Due.answer("find(" + FAR[i] + ")", FAR[i], map.find(FAR[i], false));
            Due.answer("put(" + FAR[i] + ") again", FAR[i], map.put(FAR[i], other));
            Due.answer("take(" + FAR[i] + ")", other, map.find(FAR[i], true));
            Due.holds("no more has(" + FAR[i] + ")", !map.has(FAR[i]));
        }
        Due.answer("all went: size()", 0, map.size());
    }

    /** "THE MAP holds KEYS, each once with a NUMBER". */
    private static void eachKeyOnce() {
        for (int mode = 0; mode <= 2; mode++) {
            for (int others = 0; others <= 20; others += 4) {
                BinMap map = Maps.made(mode, 1, Maps.mostFor(mode, 40));
                map.fill(4, 4, others);
                map.put(0, 1);
                map.put(0, 2);
                map.put(0, 3);
                Due.answer("put thrice: size()", others + 1, map.size());
                Due.answer("the last NUMBER", 3, map.find(0, true));
                Due.holds("taken once, it is gone", !map.has(0));
                Due.answer("the others stay: size()", others, map.size());
            }
        }
    }

    /** "at most 2000": 2000 are there, the next one is refused. */
    private static void atMost2000() {
        for (int mode = 0; mode <= 1; mode++) {
            for (int function = 0; function <= 2; function++) {
                BinMap map = Maps.made(mode, function, 0);
                Due.answer("fill up to 1999", MOST_KEYS - 1, map.fill(0, 3, MOST_KEYS - 1));
                Due.answer("put of KEY 2000", NOT_THERE, map.put(-1, 7));
                Due.answer("size()", MOST_KEYS, map.size());
                Maps.refused("put of KEY 2001", ArithmeticException.class, map, () -> map.put(-2, 8));
                Due.holds("KEY 2001 is not there", !map.has(-2));
                Due.answer("KEY 2000 is there", 7, map.find(-1, false));
            }
        }
    }

    /** "at most 2000": they may be others each time. */
    private static void roomComesBackWhenKeysGo() {
        for (int mode = 0; mode <= 1; mode++) {
            BinMap map = Maps.made(mode, 0, 0);
            map.fill(0, 1, MOST_KEYS);
            for (int i = 0; i < 20; i++) {
                int key = 9000 + i;
                Maps.refused("put(" + key + ")", ArithmeticException.class, map, () -> map.put(key, 1));
                Due.answer("take(" + i * 50 + ")", i * 50, map.find(i * 50, true));
                Due.answer("put(" + key + ") where one went", NOT_THERE, map.put(key, 1));
            }
            Due.answer("clear()", MOST_KEYS, map.clear());
            Due.answer("all come again", MOST_KEYS, map.fill(-1, -1, MOST_KEYS));
        }
    }

    /** "MODES: 0 by PLACES": put and find of a KEY that is there leave it where it is. */
    private static void byPlacesNothingMovesAKey() {
        BinMap map = Maps.with(Maps.made(0, 1, 0), 8, 4, 0, 1);
        map.put(8, 5);
        Maps.order("put of the first one", map, 8, 4, 0, 1);
        map.find(4, false);
        Maps.order("find of the second one", map, 8, 4, 0, 1);
        map.fill(8, -4, 2);
        Maps.order("fill of both", map, 8, 4, 0, 1);
        Due.answer("twelve KEYS", 12, map.fill(2, 1, 10));
        map.find(8, false);
        map.put(4, 0);
        Maps.order("find and put before ROOM is doubled", map, 8, 4, 0, 1, 5, 9, 2, 6, 10, 3, 7, 11);
        map.fill(12, 1, 2);
        Maps.order("nor do they show behind it", map, 8, 4, 0, 12, 1, 5, 9, 13, 2, 6, 10, 3, 7, 11);
    }

    /** "1 as KEYS came": put and find of a KEY that is there leave it where it is. */
    private static void asKeysCameNothingMovesAKey() {
        BinMap map = Maps.with(Maps.made(1, 0, 0), 3, 1, 2);
        Maps.order("not by PLACES", map, 3, 1, 2);
        map.put(3, 5);
        Maps.order("put of the first one", map, 3, 1, 2);
        map.find(1, false);
        Maps.order("find of the second one", map, 3, 1, 2);
        map.find(3, true);
        map.put(3, 0);
        Maps.order("one that went and came again is the last", map, 1, 2, 3);
        map.fill(2, -1, 2);
        Maps.order("fill of those that are there", map, 1, 2, 3);
        BinMap many = Maps.made(1, 0, 0);
        many.fill(500, -1, 400);
        Due.answer("many KEYS: the first is the one that came first", 500, many.at(0));
        Due.answer("many KEYS: the last is the one that came last", 101, many.at(399));
    }

    private static BinMap touchedOfFour() {
        return Maps.with(Maps.made(2, 0, 4), 40, 30, 20, 10);
    }

    /** "2 as KEYS were touched last, which they are when they come". */
    private static void touchedWhenTheyCome() {
        BinMap map = touchedOfFour();
        Maps.order("as they came", map, 40, 30, 20, 10);
        map.find(30, true);
        map.put(30, 0);
        Maps.order("one that went and came again", map, 40, 20, 10, 30);
    }

    /** "and by put": the first one, a middle one, and the last one, which stays. */
    private static void touchedByPut() {
        BinMap map = touchedOfFour();
        map.put(40, 1);
        Maps.order("put of the first", map, 30, 20, 10, 40);
        map.put(20, 1);
        Maps.order("put of a middle one", map, 30, 10, 40, 20);
        map.put(20, 2);
        Maps.order("put of the last", map, 30, 10, 40, 20);
        map.put(30, 1);
        Maps.order("put of the NUMBER that it has", map, 10, 40, 20, 30);
    }

    /** "and find": the first one, a middle one, and the last one, which stays. */
    private static void touchedByFind() {
        BinMap map = touchedOfFour();
        map.find(40, false);
        Maps.order("find of the first", map, 30, 20, 10, 40);
        map.find(20, false);
        Maps.order("find of a middle one", map, 30, 10, 40, 20);
        map.find(20, false);
        Maps.order("find of the last", map, 30, 10, 40, 20);
        map.find(10, true);
        Maps.order("one that goes leaves the others as they are", map, 30, 40, 20);
        map.find(30, true);
        map.find(20, true);
        map.find(40, false);
        Maps.order("find of the only one", map, 40);
    }

    /** Promise 6, "as by put": so fill touches what is there already. */
    private static void touchedByFillAsByPut() {
        BinMap map = touchedOfFour();
        Due.answer("fill of two that are there", 4, map.fill(40, -20, 2));
        Maps.order("fill of two that are there", map, 30, 10, 40, 20);
        Due.answer("fill of none", 4, map.fill(30, 0, 0));
        Maps.order("fill of none touches none", map, 30, 10, 40, 20);
    }

    /** "(by no other call)": each one alone, and then the same KEYS go in the same turn. */
    private static void touchedByNoOtherCall() {
        Twins.unmoved("has(40)", 1, TermsEdgesTest::touchedOfFour, map -> map.has(40) ? 1 : 0);
        Twins.unmoved("has(41)", 0, TermsEdgesTest::touchedOfFour, map -> map.has(41) ? 1 : 0);
        Twins.unmoved("at(0)", 40, TermsEdgesTest::touchedOfFour, map -> map.at(0));
        Twins.unmoved("at(1)", 30, TermsEdgesTest::touchedOfFour, map -> map.at(1));
        Twins.unmoved("after(40)", 30, TermsEdgesTest::touchedOfFour, map -> map.after(40));
        Twins.unmoved("size()", 4, TermsEdgesTest::touchedOfFour, BinMap::size);
        Twins.unmoved("wrong()", 0, TermsEdgesTest::touchedOfFour, BinMap::wrong);
        Twins.unmoved("hash()", touchedOfFour().hash(), TermsEdgesTest::touchedOfFour, BinMap::hash);
        Twins.unmoved("fill(40, 1, 0)", 4, TermsEdgesTest::touchedOfFour, map -> map.fill(40, 1, 0));
        BinMap map = touchedOfFour();
        map.has(40);
        map.at(0);
        map.after(40);
        map.hash();
        map.wrong();
        map.put(50, 0);
        Maps.order("the first one is still the first to go", map, 30, 20, 10, 50);
    }

    /** "if a KEY comes and there are more than m then": m are not more than m. */
    private static void noneGoesUpToMost() {
        for (int most : new int[] {1, 2, 3, 12, 13, 1999, MOST_KEYS}) {
            BinMap map = Maps.made(2, 0, most);
            Due.answer("MOST " + most + ": fill up to one below", most - 1, map.fill(0, 1, most - 1));
            Due.answer("MOST " + most + ": put", NOT_THERE, map.put(-5, 0));
            Due.answer("MOST " + most + ": none went", most, map.size());
            Due.answer("MOST " + most + ": the first", most == 1 ? -5 : 0, map.at(0));
            Due.answer("MOST " + most + ": the last", -5, map.at(most - 1));
        }
    }

    /** "the first one goes": it alone, for each KEY that comes beyond MOST. */
    private static void theFirstGoesBeyondMost() {
        for (int most : new int[] {2, 3, 12, 13, 1999, MOST_KEYS}) {
            BinMap map = Maps.made(2, 0, most);
            map.fill(0, 1, most);
            for (int i = 0; i < 2; i++) {
                Due.answer("MOST " + most + ": put", NOT_THERE, map.put(-1 - i, 0));
                Due.answer("MOST " + most + ": size()", most, map.size());
                Due.holds("MOST " + most + ": the first one went", !map.has(i));
                Due.answer("MOST " + most + ": the last", -1 - i, map.at(most - 1));
                Due.answer("MOST " + most + ": wrong()", 0, map.wrong());
            }
            Due.answer("MOST " + most + ": the first", most == 2 ? -1 : 2, map.at(0));
        }
    }

    /** "if a KEY comes": put, find and fill of those that are there let none go. */
    private static void noneGoesUnlessAKeyComes() {
        BinMap map = touchedOfFour();
        map.put(40, 9);
        map.find(30, false);
        map.fill(20, -10, 2);
        Maps.order("put, find and fill at MOST", map, 40, 30, 20, 10);
        map.find(20, true);
        map.put(50, 0);
        Maps.order("a KEY comes where one went", map, 40, 30, 10, 50);
        map.clear();
        map.fill(1, 1, 4);
        Maps.order("four come where all went", map, 1, 2, 3, 4);
    }

    /** "the first one goes": the first in the order of touching, not of coming. */
    private static void theFirstIsTheOneTouchedLongestAgo() {
        BinMap map = touchedOfFour();
        map.find(40, false);
        map.put(30, 0);
        map.put(50, 0);
        Maps.order("40 and 30 were touched, so 20 goes", map, 10, 40, 30, 50);
        map.fill(60, 10, 3);
        Maps.order("three come, three go", map, 50, 60, 70, 80);
        map.fill(100, 1, 50);
        Maps.order("fill beyond MOST keeps the last ones", map, 146, 147, 148, 149);
        map.fill(149, -1, 5);
        Maps.order("fill: one that went by it comes again", map, 148, 147, 146, 145);
    }

    /** "with MOST m": the least, 1. */
    private static void mostOfOne() {
        BinMap map = Maps.made(2, 1, 1);
        for (int i = 0; i < 20; i++) {
            Due.answer("put(" + i + ")", NOT_THERE, map.put(i, i));
            Due.answer("put(" + i + ") again", i, map.put(i, i));
            Maps.order("one alone", map, i);
        }
        Due.answer("fill", 1, map.fill(0, 1, MOST_KEYS));
        Maps.order("the last of fill", map, 1999);
    }

    /** "ROOM is 16 at first": 15 and 16 are not in the same PLACE, 0 and 16 are. */
    private static void room16AtFirst() {
        Maps.order("new", Maps.with(new BinMap(), 15, 16, 0), 16, 0, 15);
        Maps.order("made", Maps.with(Maps.made(0, 0, 0), 15, 16, 0), 16, 0, 15);
        Maps.order("8 is not 0", Maps.with(new BinMap(), 8, 0), 0, 8);
    }

    /** Three quarters of ROOM with a KEY that is first in ROOM, and last as soon as it is doubled. */
    private static BinMap threeQuarters(int room) {
        BinMap map = new BinMap();
        map.put(room, 0);
        Due.answer("three quarters of " + room, room / 4 * 3, map.fill(1, 1, room / 4 * 3 - 1));
        return map;
    }

    /** "when a KEY came and there are more than three quarters of ROOM, that is doubled". */
    private static void roomDoublesBeyondThreeQuarters() {
        for (int room = 16; room <= 2048; room *= 2) {
            int keys = room / 4 * 3;
            BinMap byPut = threeQuarters(room);
            Due.answer(keys + " KEYS: ROOM is " + room, room, byPut.at(0));
            byPut.put(keys, 0);
            Due.answer(keys + 1 + " KEYS by put: ROOM is twice " + room, room, byPut.at(keys));
            Due.answer(keys + 1 + " KEYS: wrong()", 0, byPut.wrong());
            BinMap byFill = threeQuarters(room);
            byFill.fill(keys, 1, 1);
            Due.answer(keys + 1 + " KEYS by fill: ROOM is twice " + room, room, byFill.at(keys));
            BinMap atOnce = new BinMap();
            atOnce.fill(room, -1, keys + 1);
            Due.answer(keys + 1 + " KEYS by one fill", room, atOnce.at(keys));
            byPut.put(2 * room, 0);
            Due.answer("ROOM is no more than twice " + room, 2 * room, byPut.at(0));
        }
    }

    /** "more than three quarters": 2000 KEYS are fewer than those of 4096, so this is the last ROOM. */
    private static void roomEndsAt4096() {
        BinMap map = new BinMap();
        map.put(4096, 0);
        Due.answer("2000 KEYS", MOST_KEYS, map.fill(1, 1, MOST_KEYS - 1));
        Due.answer("ROOM is 4096", 4096, map.at(0));
        map.find(1, true);
        map.put(4095, 0);
        Due.answer("the last PLACE", 4095, map.at(MOST_KEYS - 1));
        map.find(2, true);
        map.put(2048, 0);
        Due.answer("the PLACE in the middle", 2048, map.after(1999));
    }

    /** "when a KEY came": by no other call, and by no put of a KEY that is there. */
    private static void roomDoublesOnlyWhenAKeyComes() {
        BinMap map = threeQuarters(16);
        map.put(16, 1);
        map.fill(1, 1, 11);
        map.find(16, false);
        map.has(99);
        map.wrong();
        Due.answer("twelve KEYS: ROOM is 16", 16, map.at(0));
        map.find(1, true);
        map.put(12, 0);
        Due.answer("one went, one came: ROOM is 16", 16, map.at(0));
        map.fill(12, 1, 2);
        Due.answer("thirteen KEYS: ROOM is 32", 16, map.at(12));
    }

    /** "that is doubled": nothing halves it, and 13 KEYS that come again don't double it again. */
    private static void roomStaysWhenKeysGo() {
        BinMap map = threeQuarters(16);
        map.put(12, 0);
        for (int k = 1; k <= 11; k++) {
            map.find(k, true);
        }
        Maps.order("two KEYS are left: ROOM is 32", map, 12, 16);
        map.put(32, 0);
        Due.answer("KEYS 1 to 22 and 32", 23, map.fill(1, 1, 22));
        Due.answer("23 KEYS: ROOM is 32", 32, map.at(0));
        map.put(23, 0);
        Due.answer("24 KEYS: ROOM is 32", 32, map.at(0));
        map.put(24, 0);
        Due.answer("25 KEYS: ROOM is 64", 32, map.at(24));
        for (int left = 25; left > 0; left--) {
            map.find(map.at(0), true);
        }
        Maps.order("all KEYS went: ROOM is 64", Maps.with(map, 32, 16, 64), 64, 16, 32);
    }

    /** "Code of a KEY k by its function: 0: k". */
    private static void codeIsTheKey() {
        Maps.order("function 0", Maps.with(new BinMap(), 14, 7, 3, 21, 19), 3, 19, 21, 7, 14);
    }

    /** "1: k & 3": four PLACES, for negative KEYS as well. */
    private static void codeIsTheLowestTwoBits() {
        BinMap map = Maps.with(Maps.made(0, 1, 0), MAX, -1, -2, -3, -4, MIN, 4, 5, 6, 7);
        Maps.order("function 1", map, -4, MIN, 4, -3, 5, -2, 6, MAX, -1, 7);
        map.fill(8, 1, 40);
        Due.answer("50 KEYS, ROOM is 128: the first", -4, map.at(0));
        Due.answer("50 KEYS, ROOM is 128: the last", 47, map.at(49));
    }

    /** "2: k * -1640531527", which wraps: PLACES in ROOM 16 worked out by hand. */
    private static void codeIsTheProduct() {
        BinMap map = Maps.with(Maps.made(0, 2, 0), 1, 2, 3, 4, 5, 6, 7, 0, -1, MIN, MAX, 65536);
        Maps.order("PLACES 0 0 8 9 9 10 11 12 13 14 15 15", map, 0, MIN, 5, 4, 65536, 6, 7, 2, 3, 1, -1, MAX);
        map.put(-2, 0);
        Maps.order("PLACES in ROOM 32", map, 0, MIN, 5, 7, 3, 1, -1, MAX, 4, 65536, 6, 2, -2);
    }

    /** "PLACE of a KEY: x ^ x >>> 16 of its code x": the shift first, then the exclusive or. */
    private static void placeHasTheUpperHalf() {
        BinMap map = Maps.with(new BinMap(), 983040, 0, 65536, 1048576, 65537, 131072, 2);
        Maps.order("0 1048576 65537 | 65536 | 131072 2 | 983040", map,
                0, 1048576, 65537, 65536, 131072, 2, 983040);
    }

    /** "modulo ROOM": a PLACE is 0 or more for negative codes too. */
    private static void placeIsNeverNegative() {
        BinMap map = Maps.with(new BinMap(), -16, 3, -2, -17, 0, -1, MIN, MAX, 15, 1);
        Maps.order("ROOM 16", map, -17, 0, -1, MIN, MAX, -2, 1, 3, -16, 15);
        map.fill(4, 1, 3);
        Maps.order("ROOM 32", map, 0, -1, MIN, MAX, -2, 1, 3, 4, 5, 6, -16, 15, -17);
    }

    /** "The order: as PLACES rise": from the first to the last one, over those that are empty. */
    private static void placesRise() {
        Maps.order("the first and the last PLACE", Maps.with(new BinMap(), 15, 0), 0, 15);
        Maps.order("the last PLACE alone", Maps.with(new BinMap(), 15), 15);
        Maps.order("the first PLACE alone", Maps.with(new BinMap(), 0), 0);
        BinMap full = new BinMap();
        full.fill(4095, -2, MOST_KEYS);
        Due.answer("2000 KEYS: the first", 97, full.at(0));
        Due.answer("2000 KEYS: behind it", 99, full.after(97));
        Due.answer("2000 KEYS: the last", 4095, full.at(MOST_KEYS - 1));
    }

    /** "those in the same one as they came": not by KEY, and one that comes again is the last. */
    private static void samePlaceAsTheyCame() {
        BinMap map = Maps.with(new BinMap(), 37, 5, 21, -11);
        Maps.order("37 5 21 in PLACE 5, -11 in 10", map, 37, 5, 21, -11);
        map.find(37, true);
        map.put(37, 0);
        Maps.order("the first went and came again", map, 5, 21, 37, -11);
        map.find(21, true);
        map.put(21, 0);
        Maps.order("the middle one went and came again", map, 5, 37, 21, -11);
        map.find(21, true);
        map.put(21, 0);
        Maps.order("the last went and came again", map, 5, 37, 21, -11);
    }

    /** The same sentence when a PLACE is parted in two, and when one stays whole. */
    private static void samePlaceAsTheyCameWhenRoomDoubles() {
        BinMap parted = new BinMap();
        parted.fill(192, -16, 12);
        Maps.order("ROOM 16", parted, 192, 176, 160, 144, 128, 112, 96, 80, 64, 48, 32, 16);
        parted.put(0, 0);
        Maps.order("ROOM 32", parted, 192, 160, 128, 96, 64, 32, 0, 176, 144, 112, 80, 48, 16);
        BinMap whole = new BinMap();
        whole.fill(384, -32, 13);
        Maps.order("all in PLACE 0 of ROOM 32", whole, 384, 352, 320, 288, 256, 224, 192, 160, 128, 96, 64, 32, 0);
    }

    /** The same sentence in bins of seven to ten, which get or lose a tree, "and nobody notices". */
    private static void samePlaceAsTheyCameInALongBin() {
        BinMap map = Maps.with(Maps.made(0, 1, 0), 28, 0, 24, 4, 20, 8, 16);
        Maps.order("seven", map, 28, 0, 24, 4, 20, 8, 16);
        map.put(12, 0);
        Maps.order("eight", map, 28, 0, 24, 4, 20, 8, 16, 12);
        map.put(2, 0);
        map.put(-4, 0);
        Maps.order("nine", map, 28, 0, 24, 4, 20, 8, 16, 12, -4, 2);
        map.put(32, 0);
        Maps.order("ten", map, 28, 0, 24, 4, 20, 8, 16, 12, -4, 32, 2);
        Maps.refused("find of none", java.util.NoSuchElementException.class, map, () -> map.find(36, true));
        map.find(28, true);
        map.find(4, true);
        map.find(32, true);
        Maps.order("seven again", map, 0, 24, 20, 8, 16, 12, -4, 2);
        map.fill(0, 4, 2);
        Maps.order("one of two came again", map, 0, 24, 20, 8, 16, 12, -4, 4, 2);
        for (int k : new int[] {24, 20, 8, 16, 12, -4}) {
            map.find(k, true);
        }
        Maps.order("two", map, 0, 4, 2);
    }

    /** The same sentence with as many KEYS in one PLACE as there can be. */
    private static void allInOnePlace() {
        BinMap map = Maps.made(0, 1, 0);
        Due.answer("fill", MOST_KEYS, map.fill(4000, -4, MOST_KEYS));
        Due.answer("the first", 4000, map.at(0));
        Due.answer("one in the middle", 0, map.at(1000));
        Due.answer("the last", -3996, map.at(MOST_KEYS - 1));
        Due.answer("behind the first", 3996, map.after(4000));
        Maps.refused("one more", ArithmeticException.class, map, () -> map.put(4004, 0));
        Due.answer("take the first", 0, map.find(4000, true));
        map.put(4000, 0);
        Due.answer("it is the last now", 4000, map.after(-3996));
        Due.answer("wrong()", 0, map.wrong());
    }

    /** "What is thrown, in this order: IllegalArgumentException: a number out of range". */
    private static void outOfRangeComesFirst() {
        for (int mode = 0; mode <= 1; mode++) {
            BinMap map = Maps.made(mode, 0, 0);
            map.fill(0, 1, MOST_KEYS);
            Class<IllegalArgumentException> range = IllegalArgumentException.class;
            Maps.refused("fill of too many in a full map", range, map, () -> map.fill(9000, 1, 2001));
            Maps.refused("fill of less than none in a full map", range, map, () -> map.fill(9000, 1, -1));
            Maps.refused("make in a full map", range, map, () -> map.make(3, 3, 2001));
        }
    }
}
