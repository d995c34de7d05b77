import java.util.Arrays;

/**
 * The edges that "What it is" and "Terms" name: one test for each sentence that names one. The answers due are worked
 * out by hand.
 */
public final class TermsEdgesTest {
    private static final int MAX = Pipes.MAX;
    private static final int MIN = Pipes.MIN;
    private static final int[] NONE = {};

    private TermsEdgesTest() {
    }

    public static void main(String[] args) {
        calls512();
        manyRestartsIn512();
        sampleRange();
        sectionClipped();
        sectionFeedsClippedBack();
        gainClipped();
        resamplerClipped();
        windowNeverBeyond();
        sectionFloor();
        gainFloor();
        windowFloor();
        resamplerFloor();
        source32Floor();
        sink8Floor();
        sink16Floor();
        beforeTheFirst();
        afterTheLast();
        commonDivisor();
        whenResamplerMakes();
        whenOthersMake();
        flushWithoutSample();
        flushWindow();
        flushResampler();
        flushResamplerBound();
        flushSectionAndGain();
        Check.end();
    }

    private static FilterPipe section(int b0, int b1, int b2, int a1, int a2) {
        FilterPipe pipe = Pipes.plain();
        pipe.section(b0, b1, b2, a1, a2);
        return pipe;
    }

    private static FilterPipe gain(int g) {
        FilterPipe pipe = Pipes.plain();
        pipe.gain(g);
        return pipe;
    }

    private static FilterPipe window(int kind, int length) {
        FilterPipe pipe = Pipes.plain();
        pipe.window(kind, length);
        return pipe;
    }

    private static FilterPipe resampler(int up, int down) {
        FilterPipe pipe = Pipes.plain();
        pipe.resample(up, down);
        return pipe;
    }

    private static int[] constant(int length, int value) {
        int[] samples = new int[length];
        Arrays.fill(samples, value);
        return samples;
    }

    private static void calls512() {
        Check.about("An object is used for at most 512 calls: the 512th is answered as the first");
        FilterPipe pipe = new FilterPipe(12);
        pipe.format(8, false, false);
        for (int i = 0; i < 3; i++) {
            pipe.window(0, 8);
        }
        pipe.resample(4, 1);
        pipe.resample(4, 1);
        pipe.start();
        int calls = 7;
        for (int i = 0; i < 30; i++) {
            pipe.bytes(4, -1);
            calls++;
        }
        pipe.close();
        calls++;
        int out = 0;
        while (pipe.produce(1000) > 0) {
            int taken = pipe.consume(1000);
            out += taken;
            calls += 2;
        }
        calls++;
        // The consumer's last step, by which it is ENDED, brings no sample.
        Check.due("samples of the longest signal", out - 1, 2286);
        Check.due("call " + ++calls, pipe.state(), 10);
        for (; calls < 511; calls++) {
            Check.due("call " + (calls + 1), pipe.waiting(3), 2286);
        }
        Check.due("calls so far", calls, 511);
        Check.due("call 512: byte 2 * 1900, when only 255s have come", pipe.sinkByte(2 * 1900 + 1), 127);
    }

    private static void manyRestartsIn512() {
        Check.about("An object is used for at most 512 calls: as many restarts as they hold");
        FilterPipe pipe = new FilterPipe(0);
        pipe.window(2, 8);
        pipe.start();
        int calls = 2;
        for (; calls + 6 <= 512; calls += 6) {
            Check.due("restart() after call " + calls, pipe.restart(), true);
            Check.due("bytes after call " + calls, pipe.bytes(4, 0x01000100), 4);
            Check.due("close() after call " + calls, pipe.close(), true);
            Check.due("produce after call " + calls, pipe.produce(100), 3);
            Check.due("consume after call " + calls, pipe.consume(100), 1);
            // 65536 * 8 / 120 = 4369.07, and that in 16 bits: (4369 + 128) / 256 = 17.6
            Check.due("sinkByte after call " + calls, pipe.sinkByte(0), 17);
        }
        Check.due("calls", calls, 512);
    }

    private static void sampleRange() {
        Check.about("SAMPLES are ints from -8388608 to 8388607");
        int[] edges = {MIN, MIN + 1, -1, 0, 1, MAX - 1, MAX};
        Check.due("24 bits", Pipes.whole(Pipes.plain(), edges), edges);
    }

    private static void sectionClipped() {
        Check.about("SECTION: CLIPPED");
        Check.due("just inside above", Pipes.whole(section(16384, 16384, 0, 0, 0), MAX - 1, 0, MAX - 1, 1), MAX - 1, MAX - 1, MAX - 1, MAX);
        Check.due("just beyond above", Pipes.whole(section(16384, 16384, 0, 0, 0), MAX - 1, 2), MAX - 1, MAX);
        Check.due("far beyond above", Pipes.whole(section(32767, 32767, 32767, 0, 0), MAX, MAX, MAX), MAX, MAX, MAX);
        Check.due("just inside below", Pipes.whole(section(16384, 16384, 0, 0, 0), MIN + 1, -1), MIN + 1, MIN);
        Check.due("just beyond below", Pipes.whole(section(16384, 16384, 0, 0, 0), MIN + 1, -2), MIN + 1, MIN);
        Check.due("far beyond below", Pipes.whole(section(32767, 32767, 32767, 0, 0), MIN, MIN, MIN), MIN, MIN, MIN);
        // The last sum is 32768 * 8388609 - (32766 + 16383) * 8388607: both parts are beyond the ints by far.
        Check.due("all terms", Pipes.whole(section(-32768, -32768, -32768, 32766, 16383), MIN, MIN, MIN, MAX), MAX, MAX, MAX, -8387068);
    }

    private static void sectionFeedsClippedBack() {
        Check.about("SECTION: y[n - 1] and y[n - 2] are the CLIPPED ones");
        Check.due("y[n - 1], above", Pipes.whole(section(32767, 0, 0, -16383, 0), MAX, 0), MAX, 8388095);
        Check.due("y[n - 1], below", Pipes.whole(section(32767, 0, 0, -16383, 0), MIN, 0), MIN, -8388096);
        Check.due("y[n - 2], above", Pipes.whole(section(32767, 0, 0, 0, -8192), MAX, 0, 0), MAX, 0, 4194303);
        Check.due("y[n - 2], below", Pipes.whole(section(32767, 0, 0, 0, -8192), MIN, 0, 0), MIN, 0, MIN / 2);
    }

    private static void gainClipped() {
        Check.about("GAIN: CLIPPED");
        // 257 / 256 of these: 8388606.49, 8388607.496, 8388608.5
        Check.due("above", Pipes.whole(gain(257), 8355966, 8355967, 8355968, MAX), 8388606, MAX, MAX, MAX);
        Check.due("below", Pipes.whole(gain(257), -8355966, -8355967, -8355968, MIN), -8388607, MIN, MIN, MIN);
        Check.due("4 times", Pipes.whole(gain(1024), 2097151, 2097152, MAX, -2097152, -2097153, MIN), 8388604, MAX, MAX, MIN, MIN, MIN);
        Check.due("-1 times", Pipes.whole(gain(-256), MIN, MIN + 1, MAX), MAX, MAX, -MAX);
    }

    private static void resamplerClipped() {
        Check.about("RESAMPLER: CLIPPED");
        // Of 2, 3 every second one is 10 / 9 of a constant: y[2] and y[4] of seven samples; the others are 8 / 9.
        int[][] due = {{7549746, 8388606}, {7549747, MAX}, {7549748, MAX}, {MAX, MAX},
            {-7549746, -8388607}, {-7549747, MIN}, {-7549748, MIN}, {MIN, MIN}};
        for (int[] row : due) {
            int[] made = Pipes.live(resampler(2, 3), constant(7, row[0]));
            Check.due("2, 3 of " + row[0] + ": how many", made.length, 5);
            Check.due("2, 3 of " + row[0] + ": y[2]", made[2], row[1]);
            Check.due("2, 3 of " + row[0] + ": y[4]", made[4], row[1]);
            Check.due("2, 3 of " + row[0] + ": y[3]", made[3], Math.floorDiv(8L * row[0], 9L));
        }
    }

    private static void windowNeverBeyond() {
        Check.about("WINDOW: a mean, so nothing lies beyond");
        for (int kind = 0; kind < 3; kind++) {
            for (int length = 1; length <= 8; length++) {
                String what = "window(" + kind + ", " + length + ")";
                int[] high = Pipes.live(window(kind, length), constant(9, MAX));
                Check.due(what + " of the greatest", high[length - 1], MAX);
                Check.due(what + " of the greatest, at last", high[8], MAX);
                int[] low = Pipes.live(window(kind, length), constant(9, MIN));
                Check.due(what + " of the least", low[length - 1], MIN);
                Check.due(what + " of the least, at last", low[8], MIN);
            }
        }
    }

    private static void sectionFloor() {
        Check.about("FLOOR in SECTION, below 0 and above");
        int[] x = {-1, -16383, -16384, -16385, 0, 1, 16383, 16384};
        Check.due("1 / 16384", Pipes.whole(section(1, 0, 0, 0, 0), x), -1, -1, -1, -2, 0, 0, 0, 1);
        Check.due("-1 / 16384", Pipes.whole(section(-1, 0, 0, 0, 0), x), 0, 0, 1, 1, 0, -1, -1, -1);
        Check.due("what is fed back is rounded", Pipes.whole(section(16384, 0, 0, -8192, 0), -1, 0, 0), -1, -1, -1);
        Check.due("one FLOOR of the whole sum", Pipes.whole(section(8192, 8192, 0, 0, 0), 1, 1), 0, 1);
    }

    private static void gainFloor() {
        Check.about("FLOOR in GAIN, below 0 and above");
        int[] x = {-1, -255, -256, -257, 0, 1, 255, 256};
        Check.due("1 / 256", Pipes.whole(gain(1), x), -1, -1, -1, -2, 0, 0, 0, 1);
        Check.due("-1 / 256", Pipes.whole(gain(-1), x), 0, 0, 1, 1, 0, -1, -1, -1);
    }

    private static void windowFloor() {
        Check.about("FLOOR in WINDOW, below 0 and above");
        Check.due("-1 / 3", Pipes.whole(window(0, 3), -1), -1, -1, -1);
        Check.due("-3 / 3", Pipes.whole(window(0, 3), -3), -1, -1, -1);
        Check.due("-4 / 3", Pipes.whole(window(0, 3), -4), -2, -2, -2);
        Check.due("2 / 3", Pipes.whole(window(0, 3), 2), 0, 0, 0);
        Check.due("kind 1", Pipes.whole(window(1, 3), -2), -1, -1, -1);
        Check.due("kind 2", Pipes.whole(window(2, 3), -5), -2, -2, -2);
        Check.due("one FLOOR of the whole sum", Pipes.live(window(0, 2), 1, 1), 0, 1);
    }

    private static void resamplerFloor() {
        Check.about("FLOOR in RESAMPLER, below 0 and above");
        Check.due("2, 1", Pipes.whole(resampler(2, 1), -1), -1, -1, -1, 0);
        Check.due("2, 1", Pipes.whole(resampler(2, 1), 1), 0, 1, 0, 0);
        Check.due("1, 4", Pipes.live(resampler(1, 4), -1), -1);
        Check.due("1, 4", Pipes.live(resampler(1, 4), -16), -1);
        Check.due("1, 4", Pipes.live(resampler(1, 4), -17), -2);
        Check.due("1, 4", Pipes.live(resampler(1, 4), 15), 0);
        // 3 * 5 / 16 = 0.94 and 3 * 6 / 16 = 1.13
        Check.due("3, 4: up times the sum comes before FLOOR", Pipes.live(resampler(3, 4), 5), 0);
        Check.due("3, 4: up times the sum comes before FLOOR", Pipes.live(resampler(3, 4), 6), 1);
        Check.due("3, 4", Pipes.live(resampler(3, 4), -5), -1);
        Check.due("3, 4", Pipes.live(resampler(3, 4), -6), -2);
    }

    /** The samples that these words are; a gain of 1 lies between, since it clips what is no sample. */
    private static int[] read(int bits, int... words) {
        FilterPipe pipe = new FilterPipe(12);
        pipe.format(bits, false, false);
        pipe.format(24, false, true);
        pipe.gain(256);
        pipe.start();
        for (int word : words) {
            pipe.bytes(bits / 8, word);
        }
        Pipes.drain(pipe);
        return Pipes.sunk(pipe);
    }

    private static void source32Floor() {
        Check.about("32 bits in the source: FLOOR(v / 256)");
        Check.due("below 0", read(32, -1, -255, -256, -257), -1, -1, -1, -2);
        Check.due("above", read(32, 0, 255, 256, 511), 0, 0, 1, 1);
        Check.due("ends", read(32, Integer.MIN_VALUE, Integer.MIN_VALUE + 255, Integer.MAX_VALUE), MIN, MIN, MAX);
    }

    private static int written(int bits, int sample) {
        FilterPipe pipe = new FilterPipe(1);
        pipe.format(24, false, false);
        pipe.format(bits, true, true);
        pipe.start();
        Pipes.feed(pipe, sample);
        pipe.produce(2);
        pipe.consume(1);
        int value = 0;
        for (int i = 0; i < bits / 8; i++) {
            value = value << 8 | pipe.sinkByte(i);
        }
        return value;
    }

    private static void sink8Floor() {
        Check.about("8 bits in the sink: FLOOR((s + 32768) / 65536)");
        int[] s = {-98305, -98304, -32769, -32768, -1, 0, 32767, 32768, 98303, 98304, MIN, MIN + 32767, MIN + 32768};
        int[] v = {126, 127, 127, 128, 128, 128, 128, 129, 129, 130, 0, 0, 1};
        for (int i = 0; i < s.length; i++) {
            Check.due("8 bits of " + s[i], written(8, s[i]), v[i]);
        }
    }

    private static void sink16Floor() {
        Check.about("16 bits in the sink: FLOOR((s + 128) / 256)");
        int[] s = {-385, -384, -129, -128, -1, 0, 127, 128, 383, 384, MIN, MIN + 127, MIN + 128};
        int[] v = {0xfffe, 0xffff, 0xffff, 0, 0, 0, 0, 1, 1, 2, 0x8000, 0x8000, 0x8001};
        for (int i = 0; i < s.length; i++) {
            Check.due("16 bits of " + s[i], written(16, s[i]), v[i]);
        }
    }

    private static void beforeTheFirst() {
        Check.about("every x[i] and y[i] with i below 0 counts as 0");
        Check.due("SECTION, x", Pipes.live(section(16384, 16384, 16384, 0, 0), 100, 10, 1, 0), 100, 110, 111, 11);
        Check.due("SECTION, y", Pipes.live(section(16384, 0, 0, -8192, 8192), 100, 0, 0), 100, 50, -25);
        Check.due("WINDOW", Pipes.live(window(0, 8), 80, 80, 80), 10, 20, 30);
        Check.due("RESAMPLER", Pipes.live(resampler(4, 1), 400), 100, 200, 300, 400);
        Check.due("RESAMPLER", Pipes.live(resampler(1, 4), 160), 10);
    }

    private static void afterTheLast() {
        Check.about("every x[i] that never came counts as 0");
        Check.due("WINDOW", Pipes.whole(window(0, 4), 40, 80), 10, 30, 30, 30, 20);
        Check.due("RESAMPLER 4, 1", Pipes.whole(resampler(4, 1), 400, 800), 100, 200, 300, 400, 500, 600, 700, 800, 600, 400, 200, 0, 0, 0);
        // The weights are 1 2 3 4 3 2 1: at 4 they lie on u[4] .. u[-2], at 8 on u[8] .. u[2].
        Check.due("RESAMPLER 1, 4", Pipes.whole(resampler(1, 4), 16, 16, 16, 16), 1, 12, 3);
    }

    private static void commonDivisor() {
        Check.about("if they have a common divisor greater than 1, both are first divided by the greatest one");
        int[][] alike = {{2, 2, 1, 1}, {3, 3, 1, 1}, {4, 4, 1, 1}, {2, 4, 1, 2}, {4, 2, 2, 1}};
        int[] signal = {1000, -777, 50, 123456, MIN, MAX, 0, 31};
        for (int[] row : alike) {
            int[] want = Pipes.whole(resampler(row[2], row[3]), signal);
            Check.due(row[0] + ", " + row[1], Pipes.whole(resampler(row[0], row[1]), signal), want);
        }
        Check.due("2, 2: the samples themselves", Pipes.whole(resampler(2, 2), signal), signal);
        Check.due("3, 3: the samples themselves", Pipes.whole(resampler(3, 3), signal), signal);
        Check.due("4, 4: the samples themselves", Pipes.whole(resampler(4, 4), signal), signal);
        Check.due("2, 4 is 1, 2: R is 2", Pipes.whole(resampler(2, 4), 100, 200, 300), 25, 200, 75);
        Check.due("4, 2 is 2, 1: R is 2", Pipes.whole(resampler(4, 2), 100), 50, 100, 50, 0);
        Check.due("3, 4 has none: R is 4", Pipes.whole(resampler(3, 4), 16), 3, 9, 0);
        Check.due("4, 3 has none: R is 4", Pipes.whole(resampler(4, 3), 16), 4, 16, 4, 0);
    }

    /** How many samples are held after each sample that came. */
    private static int[] heldEach(FilterPipe pipe, int samples) {
        int[] held = new int[samples];
        pipe.start();
        for (int i = 0; i < samples; i++) {
            Pipes.feed(pipe, 1000 + i);
            pipe.produce(1);
            held[i] = pipe.waiting(1);
            pipe.produce(100);
            pipe.consume(100);
        }
        return held;
    }

    private static void whenResamplerMakes() {
        Check.about("a RESAMPLER makes y[m] as soon as x[FLOOR(m down / up)] has come");
        int[][] due = {
            {1, 1, 1, 1, 1, 1, 1, 1, 1, 1}, {1, 2, 1, 0, 1, 0, 1, 0, 1, 0}, {1, 3, 1, 0, 0, 1, 0, 0, 1, 0},
            {1, 4, 1, 0, 0, 0, 1, 0, 0, 0}, {2, 1, 2, 2, 2, 2, 2, 2, 2, 2}, {2, 2, 1, 1, 1, 1, 1, 1, 1, 1},
            {2, 3, 1, 1, 0, 1, 1, 0, 1, 1}, {2, 4, 1, 0, 1, 0, 1, 0, 1, 0}, {3, 1, 3, 3, 3, 3, 3, 3, 3, 3},
            {3, 2, 2, 1, 2, 1, 2, 1, 2, 1}, {3, 3, 1, 1, 1, 1, 1, 1, 1, 1}, {3, 4, 1, 1, 1, 0, 1, 1, 1, 0},
            {4, 1, 4, 4, 4, 4, 4, 4, 4, 4}, {4, 2, 2, 2, 2, 2, 2, 2, 2, 2}, {4, 3, 2, 1, 1, 2, 1, 1, 2, 1},
            {4, 4, 1, 1, 1, 1, 1, 1, 1, 1}};
        for (int[] row : due) {
            int[] held = heldEach(resampler(row[0], row[1]), 8);
            Check.due(row[0] + ", " + row[1], held, Arrays.copyOfRange(row, 2, 10));
        }
    }

    private static void whenOthersMake() {
        Check.about("all others make y[n] as soon as x[n] has come");
        int[] ones = {1, 1, 1, 1, 1, 1, 1, 1, 1};
        Check.due("SECTION", heldEach(section(0, 0, 1, 0, 0), 9), ones);
        Check.due("GAIN", heldEach(gain(0), 9), ones);
        for (int length = 1; length <= 8; length++) {
            Check.due("WINDOW of " + length, heldEach(window(2, length), 9), ones);
        }
    }

    /** How many samples the flush makes after so many came. */
    private static int flushed(FilterPipe pipe, int samples) {
        pipe.start();
        for (int i = 0; i < samples; i++) {
            Pipes.feed(pipe, 1000 + i);
        }
        Pipes.drain(pipe);
        pipe.close();
        Check.due("the flush is a step", pipe.produce(1), 1);
        int held = pipe.waiting(1);
        Check.due("to hand over what it made and to end", pipe.produce(100), held + 1);
        return held;
    }

    private static void flushWithoutSample() {
        Check.about("If N samples came and N is not 0: a flush makes nothing when no sample came");
        Check.due("no stage", flushed(Pipes.plain(), 0), 0);
        Check.due("SECTION", flushed(section(1, 1, 1, 1, 1), 0), 0);
        Check.due("GAIN", flushed(gain(1024), 0), 0);
        for (int kind = 0; kind < 3; kind++) {
            for (int length = 1; length <= 8; length++) {
                Check.due("WINDOW " + kind + ", " + length, flushed(window(kind, length), 0), 0);
            }
        }
        for (int up = 1; up <= 4; up++) {
            for (int down = 1; down <= 4; down++) {
                Check.due("RESAMPLER " + up + ", " + down, flushed(resampler(up, down), 0), 0);
            }
        }
        FilterPipe part = window(0, 8);
        part.start();
        part.bytes(2, 0x7fff);
        part.close();
        Check.due("bytes of less than one sample are dropped", part.produce(100), 2);
        Check.due("and make nothing", part.waiting(2), 0);
    }

    private static void flushWindow() {
        Check.about("a WINDOW then makes y[N] .. y[N + L - 2]");
        for (int length = 1; length <= 8; length++) {
            for (int samples = 1; samples <= 9; samples++) {
                Check.due("L " + length + ", N " + samples, flushed(window(samples % 3, length), samples), length - 1);
            }
        }
        Check.due("L 1: none", Pipes.whole(window(0, 1), 5, 6), 5, 6);
        Check.due("L 2: one", Pipes.whole(window(0, 2), 4, 6), 2, 5, 3);
        Check.due("L 8: seven", Pipes.whole(window(0, 8), 8), 1, 1, 1, 1, 1, 1, 1, 1);
    }

    private static void flushResampler() {
        Check.about("a RESAMPLER all y[m] not yet made with m down <= N up + 2R - 3");
        // up, down, then how many a flush makes after N = 1 .. 6
        int[][] due = {
            {1, 1, 0, 0, 0, 0, 0, 0}, {1, 2, 1, 1, 1, 1, 1, 1}, {1, 3, 1, 1, 2, 1, 1, 2}, {1, 4, 1, 1, 2, 2, 1, 1},
            {2, 1, 2, 2, 2, 2, 2, 2}, {2, 3, 1, 1, 2, 1, 1, 2}, {3, 1, 4, 4, 4, 4, 4, 4}, {3, 2, 2, 2, 2, 2, 2, 2},
            {3, 4, 2, 1, 1, 2, 2, 1}, {4, 1, 6, 6, 6, 6, 6, 6}, {4, 3, 2, 2, 2, 2, 2, 2}, {4, 4, 0, 0, 0, 0, 0, 0}};
        for (int[] row : due) {
            for (int samples = 1; samples <= 6; samples++) {
                String what = row[0] + ", " + row[1] + " after " + samples;
                Check.due(what, flushed(resampler(row[0], row[1]), samples), row[samples + 1]);
            }
        }
    }

    private static void flushResamplerBound() {
        Check.about("m down <= N up + 2R - 3: the last m that is made, and the first that is not");
        Check.due("4, 1: 9 of 9", Pipes.whole(resampler(4, 1), 16).length, 10);
        Check.due("1, 2: 2 of 2", Pipes.whole(resampler(1, 2), 16).length, 2);
        Check.due("1, 4: 4 of 6", Pipes.whole(resampler(1, 4), 16).length, 2);
        Check.due("1, 4: 4 of 7, not 8", Pipes.whole(resampler(1, 4), 16, 16).length, 2);
        Check.due("1, 4: 8 of 8", Pipes.whole(resampler(1, 4), 16, 16, 16).length, 3);
        Check.due("1, 4: 8 of 11, not 12", Pipes.whole(resampler(1, 4), constant(6, 16)).length, 3);
        Check.due("1, 4: 12 of 12", Pipes.whole(resampler(1, 4), constant(7, 16)).length, 4);
        Check.due("3, 4: 8 of 8", Pipes.whole(resampler(3, 4), 16).length, 3);
        Check.due("3, 4: 8 of 11, not 12", Pipes.whole(resampler(3, 4), 16, 16).length, 3);
    }

    private static void flushSectionAndGain() {
        Check.about("Otherwise a flush makes nothing");
        for (int samples = 1; samples <= 4; samples++) {
            Check.due("no stage", flushed(Pipes.plain(), samples), 0);
            Check.due("SECTION", flushed(section(16384, 16384, 16384, -16000, 8000), samples), 0);
            Check.due("GAIN", flushed(gain(256), samples), 0);
        }
        Check.due("the sink is empty", Pipes.whole(gain(256)), NONE);
    }
}
