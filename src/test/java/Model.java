import java.math.BigInteger;
import java.util.ArrayList;
import java.util.List;

/**
 * The document once more, as plainly as it can be written: every signal is kept whole and worked out anew from its
 * formula, so that it shares no shortcut with the program.
 */
final class Model {
    private static final int SECTION = 0;
    private static final int GAIN = 1;
    private static final int WINDOW = 2;
    private static final int RESAMPLER = 3;

    private final int room;
    private final List<int[]> stages = new ArrayList<>();
    private final int[] bits = {16, 16};
    private final boolean[] highFirst = {false, false};
    private int producer = 0;
    private int consumer = 0;

    private final List<Integer> source = new ArrayList<>();
    private int came;
    private boolean closed;
    private boolean flushed;
    private final List<Long> taken = new ArrayList<>();
    private int madeSoFar;
    private final List<Long> held = new ArrayList<>();
    private final List<Long> ring = new ArrayList<>();
    private final List<Long> sink = new ArrayList<>();

    Model(int room) {
        this.room = room < 1 ? 1 : room > 12 ? 12 : room;
    }

    private boolean add(boolean fits, int... stage) {
        if (!fits || stages.size() == 5 || producer != 0) {
            return false;
        }
        stages.add(stage);
        return true;
    }

    private static boolean in(long number, long low, long high) {
        return low <= number && number <= high;
    }

    boolean section(int b0, int b1, int b2, int a1, int a2) {
        boolean fits = true;
        for (int number : new int[] {b0, b1, b2, a1, a2}) {
            fits &= in(number, -32768, 32767);
        }
        boolean stable = in(a2, -16383, 16383) && in(a1, -(16384L + a2) + 1, 16384L + a2 - 1);
        return add(fits && stable, SECTION, b0, b1, b2, a1, a2);
    }

    private static BigInteger big(long number) {
        return BigInteger.valueOf(number);
    }

    private static BigInteger floor(BigInteger above, BigInteger below) {
        BigInteger[] parts = above.divideAndRemainder(below);
        boolean oneLess = parts[1].signum() != 0 && parts[1].signum() != below.signum();
        return oneLess ? parts[0].subtract(BigInteger.ONE) : parts[0];
    }

    private static int near(BigInteger above, BigInteger below) {
        return floor(above.shiftLeft(1).add(below), below.shiftLeft(1)).intValueExact();
    }

    boolean halfPower(int k, boolean high) {
        if (!in(k, 1, 96)) {
            return false;
        }
        BigInteger kk = big(k).multiply(big(k));
        BigInteger even = big(65536).multiply(kk.add(big(256)));
        BigInteger odd = big(1482912).multiply(big(k));
        BigInteger d = even.add(odd);
        int b0 = high ? near(big(274877906944L), d) : near(big(1073741824).multiply(kk), d);
        int a1 = near(big(2147483648L).multiply(kk.subtract(big(256))), d);
        int a2 = near(big(16384).multiply(even.subtract(odd)), d);
        return section(b0, high ? -2 * b0 : 2 * b0, b0, a1, a2);
    }

    boolean gain(int g) {
        return add(in(g, -1024, 1024), GAIN, g);
    }

    boolean window(int kind, int length) {
        return add(in(kind, 0, 2) && in(length, 1, 8), WINDOW, kind, length);
    }

    boolean resample(int up, int down) {
        long there = stages.stream().filter(stage -> stage[0] == RESAMPLER).count();
        if (!in(up, 1, 4) || !in(down, 1, 4)) {
            return false;
        }
        int divisor = big(up).gcd(big(down)).intValue();
        return add(there < 2, RESAMPLER, up / divisor, down / divisor);
    }

    boolean format(int width, boolean high, boolean out) {
        if (producer != 0 || width % 8 != 0 || !in(width, 8, 32)) {
            return false;
        }
        bits[out ? 1 : 0] = width;
        highFirst[out ? 1 : 0] = high;
        return true;
    }

    /** The square of |p + q / z + r / (z z)| times e^4, with z = (c + s i) / e. */
    private static BigInteger squared(long p, long q, long r, long c, long s, long e) {
        BigInteger real = big(p * e * e).add(big(q * c * e)).add(big(r * (c * c - s * s)));
        BigInteger other = big(-q * s * e).add(big(-2 * r * c * s));
        return real.multiply(real).add(other.multiply(other));
    }

    int response(int at, int k) {
        if (!in(at, 0, stages.size() - 1) || stages.get(at)[0] != SECTION || !in(k, 0, 96)) {
            return -1;
        }
        int[] n = stages.get(at);
        long c = 256 - (long) k * k;
        long s = 32L * k;
        long e = 256 + (long) k * k;
        BigInteger above = squared(n[1], n[2], n[3], c, s, e).multiply(big(4096));
        BigInteger below = squared(16384, n[4], n[5], c, s, e);
        return floor(above, below).min(big(2147483647)).intValueExact();
    }

    boolean start() {
        return producer == 0 && begin();
    }

    boolean restart() {
        return producer != 0 && begin();
    }

    private boolean begin() {
        source.clear();
        came = 0;
        closed = false;
        flushed = false;
        taken.clear();
        madeSoFar = 0;
        held.clear();
        ring.clear();
        sink.clear();
        producer = 1;
        consumer = 1;
        return true;
    }

    int bytes(int count, int word) {
        if (!in(count, 1, 4) || closed || came + count > 120 || producer == 0) {
            return 0;
        }
        for (int i = 0; i < count; i++) {
            source.add(word >>> 8 * i & 255);
        }
        came += count;
        return count;
    }

    boolean close() {
        if (closed || producer == 0) {
            return false;
        }
        closed = true;
        return true;
    }

    int produce(int n) {
        int made = 0;
        while (made < n && producer == 1 && producerStep()) {
            made++;
        }
        return made;
    }

    private boolean producerStep() {
        if (!held.isEmpty() && consumer == 3) {
            held.clear();
            producer = 2;
        } else if (!held.isEmpty() && ring.size() < room) {
            ring.add(held.remove(0));
        } else if (!held.isEmpty()) {
            return false;
        } else if (source.size() >= bits[0] / 8) {
            taken.add(takeSample());
            hold();
        } else if (closed && !flushed) {
            source.clear();
            flushed = true;
            hold();
        } else if (closed) {
            producer = 2;
        } else {
            return false;
        }
        return true;
    }

    private void hold() {
        List<Long> signal = taken;
        for (int[] stage : stages) {
            signal = through(stage, signal);
        }
        held.addAll(signal.subList(madeSoFar, signal.size()));
        madeSoFar = signal.size();
    }

    private long takeSample() {
        long v = 0;
        int width = bits[0] / 8;
        for (int i = 0; i < width; i++) {
            long value = source.remove(0);
            v = highFirst[0] ? v * 256 + value : v + (value << 8 * i);
        }
        if (width == 1) {
            return (v - 128) * 65536;
        }
        if (v >= 1L << bits[0] - 1) {
            v -= 1L << bits[0];
        }
        return width == 2 ? 256 * v : width == 3 ? v : Math.floorDiv(v, 256L);
    }

    private static long clipped(long number) {
        return number < -8388608 ? -8388608 : number > 8388607 ? 8388607 : number;
    }

    private static long get(List<Long> signal, int i) {
        return i < 0 || i >= signal.size() ? 0 : signal.get(i);
    }

    private List<Long> through(int[] stage, List<Long> x) {
        List<Long> y = new ArrayList<>();
        int last = lastMade(stage, x.size());
        for (int n = 0; n <= last; n++) {
            y.add(made(stage, x, y, n));
        }
        return y;
    }

    /** The number of the last sample that the stage makes of so many samples, flushed or not. */
    private int lastMade(int[] stage, int came) {
        if (came == 0) {
            return -1;
        }
        if (stage[0] == WINDOW) {
            return flushed ? came + stage[2] - 2 : came - 1;
        }
        if (stage[0] != RESAMPLER) {
            return came - 1;
        }
        int up = stage[1];
        int down = stage[2];
        int last = -1;
        while ((last + 1) * down / up <= came - 1
                || flushed && (last + 1) * down <= came * up + 2 * Math.max(up, down) - 3) {
            last++;
        }
        return last;
    }

    private static long made(int[] stage, List<Long> x, List<Long> y, int n) {
        switch (stage[0]) {
            case SECTION:
                return clipped(Math.floorDiv(stage[1] * get(x, n) + stage[2] * get(x, n - 1) + stage[3] * get(x, n - 2)
                        - stage[4] * get(y, n - 1) - stage[5] * get(y, n - 2), 16384L));
            case GAIN:
                return clipped(Math.floorDiv(stage[1] * get(x, n), 256L));
            case WINDOW:
                return windowed(stage[1], stage[2], x, n);
            default:
                return resampled(stage[1], stage[2], x, n);
        }
    }

    private static long windowed(int kind, int length, List<Long> x, int n) {
        long sum = 0;
        long total = 0;
        for (int k = 0; k < length; k++) {
            long w = kind == 0 ? 1 : kind == 1 ? Math.min(k + 1, length - k) : (k + 1) * (length - k);
            sum += w * get(x, n - k);
            total += w;
        }
        return Math.floorDiv(sum, total);
    }

    private static long resampled(int up, int down, List<Long> x, int m) {
        int r = Math.max(up, down);
        long sum = 0;
        for (int k = 0; k <= 2 * r - 2; k++) {
            int place = m * down - k;
            if (Math.floorMod(place, up) == 0) {
                sum += (r - Math.abs(k - (r - 1))) * get(x, Math.floorDiv(place, up));
            }
        }
        return clipped(Math.floorDiv(up * sum, (long) r * r));
    }

    int consume(int n) {
        int made = 0;
        while (made < n && consumer == 1) {
            if (!ring.isEmpty()) {
                sink.add(ring.remove(0));
            } else if (producer == 2 || producer == 3) {
                consumer = 2;
            } else {
                break;
            }
            made++;
        }
        return made;
    }

    boolean interrupt(boolean theProducer) {
        if ((theProducer ? producer : consumer) != 1) {
            return false;
        }
        if (theProducer) {
            producer = 3;
            held.clear();
        } else {
            consumer = 3;
        }
        return true;
    }

    int state() {
        return producer + 4 * consumer;
    }

    int waiting(int where) {
        List<List<?>> all = List.of(source, held, ring, sink);
        return in(where, 0, 3) ? all.get(where).size() : -1;
    }

    int sinkByte(int i) {
        int width = bits[1] / 8;
        if (!in(i, 0, (long) width * sink.size() - 1)) {
            return -1;
        }
        long s = sink.get(i / width);
        long v;
        switch (bits[1]) {
            case 8: v = 128 + Math.min(127, Math.floorDiv(s + 32768, 65536L)); break;
            case 16: v = Math.min(32767, Math.floorDiv(s + 128, 256L)); break;
            case 24: v = s; break;
            default: v = 256 * s;
        }
        int place = highFirst[1] ? width - 1 - i % width : i % width;
        return (int) (v >> 8 * place & 255);
    }

    long power(int f) {
        int blocks = sink.size() / 12;
        if (blocks == 0 || !in(f, 0, 4)) {
            return -1;
        }
        // Twice the cosine and the sine of 0 .. 11 twelfths of a turn; the sines in units of 1 or of the root of 3.
        long[] cosine = {2, 0, 1, 0, -1, 0, -2, 0, -1, 0, 1, 0};
        long[] sineWhole = {0, 0, 0, 2, 0, 0, 0, 0, 0, -2, 0, 0};
        long[] sineRoot = {0, 0, 1, 0, 1, 0, 0, 0, -1, 0, -1, 0};
        int twelfths = new int[] {0, 2, 3, 4, 6}[f];
        BigInteger real = BigInteger.ZERO;
        BigInteger whole = BigInteger.ZERO;
        BigInteger root = BigInteger.ZERO;
        for (int j = 0; j < 12; j++) {
            BigInteger x = big(sink.get(12 * blocks - 12 + j));
            int angle = j * twelfths % 12;
            real = real.add(x.multiply(big(cosine[angle])));
            whole = whole.add(x.multiply(big(sineWhole[angle])));
            root = root.add(x.multiply(big(sineRoot[angle])));
        }
        BigInteger sum = real.multiply(real).add(whole.multiply(whole)).add(root.multiply(root).multiply(big(3)));
        return sum.divide(big(4)).longValueExact();
    }
}
