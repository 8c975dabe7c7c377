import java.util.Random;

/** Long runs of calls, drawn from written seeds, on BinMap and on PlainMap side by side. */
public final class ModelTest {
    private static final int MOST_CALLS = 512;
    private static final int RUNS = 60;

    private final BinMap map = new BinMap();
    private final PlainMap plain = new PlainMap();
    private final Random random;
    private final int span;
    private final int stride;
    private int calls = 0;

    private ModelTest(int seed) {
        random = new Random(seed);
        int[] spans = {6, 40, 300, 5000};
        int[] strides = {1, 4, 16, 65536, 65537, -1640531527};
        span = spans[seed % spans.length];
        stride = strides[seed % strides.length];
    }

    public static void main(String[] args) {
        for (int mode = 0; mode <= 2; mode++) {
            for (int function = 0; function <= 2; function++) {
                for (int seed = 0; seed < RUNS; seed++) {
                    new ModelTest(seed).run(mode, function, seed % 2 == 0);
                }
            }
        }
        Due.finish("ModelTest");
    }

    private void run(int mode, int function, boolean isLarge) {
        int most = mode == 2 ? 1 + random.nextInt(isLarge ? 2000 : 30) : 0;
        make(mode, function, most);
        if (isLarge) {
            fill(key(), stride, 1 + random.nextInt(2000));
        }
        while (calls + 8 < MOST_CALLS) {
            anyCall(isLarge);
            same("size()", plain::size, map::size);
            if (random.nextInt(4) == 0) {
                same("hash()", plain::hash, map::hash);
                same("wrong()", () -> 0, map::wrong);
            }
        }
        same("hash()", plain::hash, map::hash);
        same("wrong()", () -> 0, map::wrong);
    }

    private void anyCall(boolean isLarge) {
        int k = key();
        int x = random.nextInt();
        int i = random.nextInt(plain.size() + 2) - 1;
        switch (random.nextInt(isLarge ? 60 : 40)) {
            case 0 -> fill(k, stride * (random.nextInt(3) - 1), random.nextInt(isLarge ? 2003 : 20) - 1);
            case 1 -> anyMake();
            case 2 -> rarelyClear();
            case 3, 4, 5 -> same("at(" + i + ")", () -> plain.at(i), () -> map.at(i));
            case 6, 7, 8 -> same("after(" + k + ")", () -> plain.after(k), () -> map.after(k));
            case 9, 10, 11 -> same("has(" + k + ")", () -> plain.has(k) ? 1 : 0, () -> map.has(k) ? 1 : 0);
            case 12, 13, 14, 15, 16 -> same("find(" + k + ")", () -> plain.find(k, false), () -> map.find(k, false));
            case 17, 18, 19, 20, 21, 22, 23, 24, 25 -> take(k);
            default -> same("put(" + k + ", " + x + ")", () -> plain.put(k, x), () -> map.put(k, x));
        }
    }

    private void take(int k) {
        same("find(" + k + ", true)", () -> plain.find(k, true), () -> map.find(k, true));
    }

    private void rarelyClear() {
        if (random.nextInt(8) == 0) {
            same("clear()", plain::clear, map::clear);
        }
    }

    /** Mostly out of range, so that the run's own MODE lasts. */
    private void anyMake() {
        if (random.nextInt(12) == 0) {
            int mode = random.nextInt(3);
            make(mode, random.nextInt(3), mode == 2 ? 1 + random.nextInt(2000) : 0);
        } else {
            make(random.nextInt(6) - 2, 3 + random.nextInt(3), random.nextInt(2003) - 1);
        }
    }

    private void make(int mode, int function, int most) {
        same("make(" + mode + ", " + function + ", " + most + ")",
                () -> plain.make(mode, function, most), () -> map.make(mode, function, most));
    }

    private void fill(int x, int step, int n) {
        same("fill(" + x + ", " + step + ", " + n + ")",
                () -> plain.fill(x, step, n), () -> map.fill(x, step, n));
    }

    private int key() {
        return (random.nextInt(span) - span / 3) * stride;
    }

    private void same(String call, Due.Call due, Due.Call got) {
        calls++;
        Due.same("call " + calls + ", " + call, due, got);
    }
}
