/**
 * The edges that "Terms" names for the CHAIN, the FORMATS and the source: one test for each sentence that names one.
 * The answers due are worked out by hand.
 */
public final class ChainEdgesTest {
    private static final int MAX = Pipes.MAX;
    private static final int MIN = Pipes.MIN;
    private static final String[] KINDS = {"section", "halfPower", "gain", "window", "resample"};

    private ChainEdgesTest() {
    }

    public static void main(String[] args) {
        fifthAndSixthStage();
        fiveStagesWork();
        twoResamplersAnywhere();
        noThirdResampler();
        twoResamplersWork();
        inOrder();
        noStage();
        flushedInOrder();
        flushThroughFive();
        flushThroughTwoResamplers();
        formatsAtFirst();
        orders();
        source8();
        source16();
        source24();
        source32();
        sink8();
        sink16();
        sink24();
        sink32();
        formatsStay();
        bytes120();
        bytes121AsAWhole();
        takenBytesCount();
        bytesAfterRestart();
        Check.end();
    }

    private static boolean add(FilterPipe pipe, int kind) {
        switch (kind) {
            case 0: return pipe.section(8192, 0, 0, 0, 0);
            case 1: return pipe.halfPower(16, true);
            case 2: return pipe.gain(128);
            case 3: return pipe.window(0, 2);
            default: return pipe.resample(2, 1);
        }
    }

    private static void fifthAndSixthStage() {
        Check.about("The CHAIN is a list of at most five stages");
        for (int kind = 0; kind < 5; kind++) {
            for (int other = 0; other < 5; other++) {
                FilterPipe pipe = new FilterPipe(1);
                Pipes.fillStages(pipe, 4);
                Check.due("fifth: " + KINDS[kind], add(pipe, kind), true);
                Check.due("sixth: " + KINDS[other], add(pipe, other), false);
                Check.due("seventh: " + KINDS[other], add(pipe, other), false);
            }
            int sixth = kind;
            Twins.refused("sixth: " + KINDS[kind], 3, pipe -> Pipes.fillStages(pipe, 5), pipe -> Twins.of(add(pipe, sixth)));
        }
    }

    private static void fiveStagesWork() {
        Check.about("The CHAIN is a list of at most five stages: the fifth works too");
        FilterPipe gains = Pipes.plain();
        for (int i = 0; i < 5; i++) {
            gains.gain(128);
        }
        Check.due("halved five times", Pipes.whole(gains, 1023, -1, -33, 32), 31, -1, -2, 1);
        FilterPipe sections = Pipes.plain();
        for (int i = 0; i < 5; i++) {
            sections.section(0, 16384, 0, 0, 0);
        }
        Check.due("delayed five times", Pipes.whole(sections, 7, 8, 9, 10, 11, 12, 13), 0, 0, 0, 0, 0, 7, 8);
        FilterPipe mixed = Pipes.plain();
        mixed.gain(512);
        mixed.section(16384, 16384, 0, 0, 0);
        mixed.window(0, 2);
        mixed.resample(2, 1);
        mixed.gain(-256);
        // 100 becomes 200, then 200 200 0, then means 100 200 100 and 0 by the flush, then between them their means
        Check.due("all kinds", Pipes.whole(mixed, 100, 0, 0), -50, -100, -150, -200, -150, -100, -50, 0, 0, 0);
    }

    private static void twoResamplersAnywhere() {
        Check.about("at most two of them RESAMPLERS: wherever they stand");
        for (int first = 0; first < 5; first++) {
            for (int second = first + 1; second < 5; second++) {
                FilterPipe pipe = new FilterPipe(1);
                for (int place = 0; place < 5; place++) {
                    boolean resampler = place == first || place == second;
                    boolean taken = resampler ? pipe.resample(1, 1) : pipe.gain(256);
                    Check.due("resamplers " + first + " and " + second + ": stage " + place, taken, true);
                    if (place >= second) {
                        Check.due("a third after stage " + place, pipe.resample(1, 1), false);
                    }
                }
            }
        }
    }

    private static void noThirdResampler() {
        Check.about("at most two of them RESAMPLERS (with any numbers)");
        for (int up = 1; up <= 4; up++) {
            for (int down = 1; down <= 4; down++) {
                int one = up;
                int other = down;
                FilterPipe pipe = new FilterPipe(1);
                Check.due("first " + up + ", " + down, pipe.resample(up, down), true);
                Check.due("second " + up + ", " + down, pipe.resample(up, down), true);
                Check.due("third " + up + ", " + down, pipe.resample(up, down), false);
                Check.due("third 1, 1", pipe.resample(1, 1), false);
                Check.due("another stage has place", pipe.gain(256), true);
                Twins.refused("third " + up + ", " + down, 2, ChainEdgesTest::twoResamplers, p -> Twins.of(p.resample(one, other)));
            }
        }
    }

    private static void twoResamplers(FilterPipe pipe) {
        pipe.resample(1, 1);
        pipe.resample(2, 2);
    }

    private static void twoResamplersWork() {
        Check.about("at most two of them RESAMPLERS: the second works too");
        FilterPipe up = Pipes.plain();
        up.resample(2, 1);
        up.resample(2, 1);
        // 400 becomes 200 400 200 0, and these with their means between them
        Check.due("2, 1 twice", Pipes.whole(up, 400), 100, 200, 300, 400, 300, 200, 100, 0, 0, 0);
        // 400 0 0 0 0 becomes 100 100 0 and by the flush 0; then 25 75, and by the flush 0
        Check.due("1, 2 twice", Pipes.whole(halvedTwice(), 400, 0, 0, 0, 0), 25, 75, 0);
        Check.due("1, 2 twice: live", Pipes.live(halvedTwice(), 400, 0, 0, 0, 0), 25, 75);
    }

    private static FilterPipe halvedTwice() {
        FilterPipe pipe = Pipes.plain();
        pipe.resample(1, 2);
        pipe.resample(1, 2);
        return pipe;
    }

    private static void inOrder() {
        Check.about("the first one gets the samples of the source, each other one in order what the one before makes");
        FilterPipe one = Pipes.plain();
        one.gain(1);
        one.gain(1024);
        Check.due("a 256th, then 4 times", Pipes.whole(one, 255, 256, -1), 0, 4, -4);
        FilterPipe other = Pipes.plain();
        other.gain(1024);
        other.gain(1);
        Check.due("4 times, then a 256th", Pipes.whole(other, 255, 256, -1), 3, 4, -1);
        FilterPipe clipped = Pipes.plain();
        clipped.gain(1024);
        clipped.gain(64);
        Check.due("between the stages they are CLIPPED", Pipes.whole(clipped, MAX, MIN), MAX / 4, MIN / 4);
    }

    private static void noStage() {
        Check.about("with no stage: the samples themselves");
        Check.due("none", Pipes.whole(Pipes.plain()), new int[0]);
        Check.due("some", Pipes.whole(Pipes.plain(), MIN, -1, 0, 1, MAX), MIN, -1, 0, 1, MAX);
    }

    private static void flushedInOrder() {
        Check.about("the first stage is flushed, what it makes goes through the others; then the second one");
        FilterPipe pipe = Pipes.plain();
        pipe.resample(2, 1);
        pipe.resample(1, 2);
        pipe.start();
        Pipes.feed(pipe, 400);
        pipe.close();
        // 200 400, by the flush 200 0; of them the second makes 50 at once, then 300, and by its own flush 50
        Check.due("live", pipe.produce(2), 2);
        Check.due("in the ring", pipe.waiting(2), 1);
        Check.due("the flush", pipe.produce(1), 1);
        Check.due("held", pipe.waiting(1), 2);
        Pipes.drain(pipe);
        Check.due("2, 1 and 1, 2", Pipes.sunk(pipe), 50, 300, 50);

        FilterPipe back = Pipes.plain();
        back.resample(1, 4);
        back.resample(4, 1);
        Check.due("1, 4 and 4, 1", Pipes.whole(back, 16), 0, 0, 0, 1, 1, 2, 2, 3, 2, 1, 0, 0, 0, 0);

        FilterPipe fedBack = Pipes.plain();
        fedBack.window(0, 2);
        fedBack.section(16384, 0, 0, -8192, 0);
        fedBack.window(0, 2);
        // 100 becomes 50 50, then 50 75, then 25 62 37
        Check.due("through a section", Pipes.whole(fedBack, 100), 25, 62, 37);
    }

    private static void flushThroughFive() {
        Check.about("and so on: a flush goes through five stages");
        FilterPipe pipe = Pipes.plain();
        int[] due = {1};
        for (int i = 0; i < 5; i++) {
            pipe.window(0, 8);
            due = spread(due);
        }
        // The impulse is 8^5 high: so each mean on the way is a whole number.
        Check.due("windows of 8", Pipes.whole(pipe, 32768), due);
        Check.due("one and five times seven", due.length, 36);
    }

    private static int[] spread(int[] row) {
        int[] sums = new int[row.length + 7];
        for (int i = 0; i < row.length; i++) {
            for (int k = 0; k < 8; k++) {
                sums[i + k] += row[i];
            }
        }
        return sums;
    }

    private static void flushThroughTwoResamplers() {
        Check.about("and so on: a flush goes through two RESAMPLERS");
        FilterPipe pipe = Pipes.plain();
        pipe.resample(4, 1);
        pipe.resample(4, 1);
        pipe.start();
        Pipes.feed(pipe, 1000);
        Check.due("a sample", pipe.produce(1), 1);
        Check.due("16 of it", pipe.waiting(1), 16);
        Pipes.drain(pipe);
        pipe.close();
        Check.due("the flush", pipe.produce(1), 1);
        Check.due("6 become 24, and 6 more", pipe.waiting(1), 30);
    }

    private static void formatsAtFirst() {
        Check.about("Source and sink have a format each, 16 bits and LOW FIRST at first");
        FilterPipe source = new FilterPipe(1);
        source.format(24, true, true);
        source.start();
        source.bytes(1, 2);
        Check.due("8 bits are no sample", source.produce(1), 0);
        source.bytes(1, 1);
        Check.due("16 bits are one", source.produce(2), 2);
        source.consume(1);
        Check.due("highest byte", source.sinkByte(0), 1);
        Check.due("middle byte", source.sinkByte(1), 2);
        Check.due("lowest byte", source.sinkByte(2), 0);
        FilterPipe sink = new FilterPipe(1);
        sink.format(24, false, false);
        sink.start();
        Pipes.feed(sink, 0x010203);
        sink.produce(2);
        sink.consume(1);
        Check.due("low byte", sink.sinkByte(0), 2);
        Check.due("high byte", sink.sinkByte(1), 1);
        Check.due("no more", sink.sinkByte(2), -1);
    }

    /** The bytes in the sink for one sample of the bytes of a word, the lowest one first. */
    private static int[] through(int bitsIn, boolean highIn, int bitsOut, boolean highOut, int word) {
        FilterPipe pipe = new FilterPipe(1);
        pipe.format(bitsIn, highIn, false);
        pipe.format(bitsOut, highOut, true);
        pipe.start();
        pipe.bytes(bitsIn / 8, word);
        pipe.produce(2);
        pipe.consume(1);
        int[] bytes = new int[bitsOut / 8];
        for (int i = 0; i < bytes.length; i++) {
            bytes[i] = pipe.sinkByte(i);
        }
        Check.due("no more bytes", pipe.sinkByte(bytes.length), -1);
        return bytes;
    }

    private static void orders() {
        Check.about("with LOW FIRST the first byte of a sample holds its lowest eight bits, with HIGH FIRST its highest");
        Check.due("8", through(8, false, 8, false, 0x91), 0x91);
        Check.due("8", through(8, true, 8, true, 0x91), 0x91);
        Check.due("16 low, low", through(16, false, 16, false, 0x0201), 1, 2);
        Check.due("16 low, high", through(16, false, 16, true, 0x0201), 2, 1);
        Check.due("16 high, low", through(16, true, 16, false, 0x0201), 2, 1);
        Check.due("16 high, high", through(16, true, 16, true, 0x0201), 1, 2);
        Check.due("24 low, low", through(24, false, 24, false, 0x030201), 1, 2, 3);
        Check.due("24 low, high", through(24, false, 24, true, 0x030201), 3, 2, 1);
        Check.due("24 high, low", through(24, true, 24, false, 0x030201), 3, 2, 1);
        Check.due("24 high, high", through(24, true, 24, true, 0x030201), 1, 2, 3);
        Check.due("32 low, low", through(32, false, 32, false, 0x04030201), 0, 2, 3, 4);
        Check.due("32 low, high", through(32, false, 32, true, 0x04030201), 4, 3, 2, 0);
        Check.due("32 high, low", through(32, true, 32, false, 0x04030201), 0, 3, 2, 1);
        Check.due("32 high, high", through(32, true, 32, true, 0x04030201), 1, 2, 3, 0);
        Check.due("16 high, 32 low", through(16, true, 32, false, 0x0201), 0, 0, 2, 1);
    }

    /** What the word's bytes are as a sample; a gain of 1 lies between, since it clips what is no sample. */
    private static int sampleOf(int bits, boolean high, int word) {
        FilterPipe pipe = new FilterPipe(1);
        pipe.format(bits, high, false);
        pipe.format(24, false, true);
        pipe.gain(256);
        pipe.start();
        pipe.bytes(bits / 8, word);
        pipe.produce(2);
        pipe.consume(1);
        return Pipes.sunk(pipe)[0];
    }

    private static void source8() {
        Check.about("for 8 bits v is 0 .. 255 and s = (v - 128) 65536");
        for (int v = 0; v < 256; v++) {
            Check.due("8 bits " + v, sampleOf(8, v % 2 == 0, v), (v - 128) * 65536);
        }
    }

    private static void source16() {
        Check.about("v has a sign (two's complement), and s is 256 v for 16 bits");
        int[][] due = {{0, 0}, {1, 256}, {0x7fff, 32767 * 256}, {0x8000, MIN}, {0x8001, -32767 * 256}, {0xffff, -256}, {0x00ff, 255 * 256}, {0xff00, -65536}};
        for (int[] row : due) {
            Check.due("16 bits low first " + row[0], sampleOf(16, false, row[0]), row[1]);
            Check.due("16 bits high first " + row[0], sampleOf(16, true, (row[0] & 255) << 8 | row[0] >> 8), row[1]);
        }
    }

    private static void source24() {
        Check.about("v has a sign (two's complement), and s is v for 24 bits");
        int[][] due = {{0, 0}, {1, 1}, {0x7fffff, MAX}, {0x800000, MIN}, {0x800001, MIN + 1}, {0xffffff, -1}, {0x0000ff, 255}, {0xff0000, -65536}};
        for (int[] row : due) {
            Check.due("24 bits low first " + row[0], sampleOf(24, false, row[0]), row[1]);
            Check.due("24 bits high first " + row[0], sampleOf(24, true, Integer.reverseBytes(row[0]) >>> 8), row[1]);
        }
    }

    private static void source32() {
        Check.about("v has a sign (two's complement), and s is FLOOR(v / 256) for 32");
        int[][] due = {{0, 0}, {255, 0}, {256, 1}, {Integer.MAX_VALUE, MAX}, {Integer.MIN_VALUE, MIN}, {-1, -1}, {-256, -1}, {-257, -2}};
        for (int[] row : due) {
            Check.due("32 bits low first " + row[0], sampleOf(32, false, row[0]), row[1]);
            Check.due("32 bits high first " + row[0], sampleOf(32, true, Integer.reverseBytes(row[0])), row[1]);
        }
    }

    private static void sink8() {
        Check.about("8: 128 + (FLOOR((s + 32768) / 65536), but 127 if that is greater)");
        int[][] due = {{MIN, 0}, {MIN + 32767, 0}, {MIN + 32768, 1}, {-32769, 127}, {-32768, 128}, {0, 128}, {32767, 128}, {32768, 129},
            {8290303, 254}, {8290304, 255}, {8355839, 255}, {8355840, 255}, {MAX, 255}};
        for (int[] row : due) {
            Check.due("8 bits of " + row[0], through(24, false, 8, false, row[0]), row[1]);
            Check.due("8 bits, high first, of " + row[0], through(24, false, 8, true, row[0]), row[1]);
        }
    }

    private static void sink16() {
        Check.about("16: FLOOR((s + 128) / 256), but 32767 if that is greater");
        int[][] due = {{MIN, 0x80, 0}, {MIN + 127, 0x80, 0}, {MIN + 128, 0x80, 1}, {-129, 0xff, 0xff}, {-128, 0, 0}, {0, 0, 0}, {127, 0, 0}, {128, 0, 1},
            {8388223, 0x7f, 0xfe}, {8388224, 0x7f, 0xff}, {8388479, 0x7f, 0xff}, {8388480, 0x7f, 0xff}, {MAX, 0x7f, 0xff}};
        for (int[] row : due) {
            Check.due("16 bits of " + row[0], through(24, false, 16, true, row[0]), row[1], row[2]);
            Check.due("16 bits, low first, of " + row[0], through(24, false, 16, false, row[0]), row[2], row[1]);
        }
    }

    private static void sink24() {
        Check.about("24: s");
        Check.due("least", through(24, false, 24, true, MIN), 0x80, 0, 0);
        Check.due("-1", through(24, false, 24, true, -1), 0xff, 0xff, 0xff);
        Check.due("0", through(24, false, 24, true, 0), 0, 0, 0);
        Check.due("greatest", through(24, false, 24, true, MAX), 0x7f, 0xff, 0xff);
    }

    private static void sink32() {
        Check.about("32: 256 s");
        Check.due("least", through(24, false, 32, true, MIN), 0x80, 0, 0, 0);
        Check.due("-1", through(24, false, 32, true, -1), 0xff, 0xff, 0xff, 0);
        Check.due("0", through(24, false, 32, true, 0), 0, 0, 0, 0);
        Check.due("greatest", through(24, false, 32, true, MAX), 0x7f, 0xff, 0xff, 0);
    }

    private static void formatsStay() {
        Check.about("Before start() the chain and the formats are BUILT; afterwards they stay");
        FilterPipe pipe = new FilterPipe(1);
        pipe.format(32, true, false);
        pipe.format(8, false, false);
        pipe.format(24, true, true);
        pipe.start();
        Check.due("format after start", pipe.format(16, false, false), false);
        Check.due("gain after start", pipe.gain(0), false);
        for (int time = 0; time < 2; time++) {
            pipe.bytes(1, 129);
            Check.due("one byte is a sample", pipe.produce(2), 2);
            pipe.consume(1);
            Check.due("first byte", pipe.sinkByte(0), 1);
            Check.due("last byte", pipe.sinkByte(2), 0);
            Check.due("no more", pipe.sinkByte(3), -1);
            pipe.restart();
            Check.due("format after restart", pipe.format(16, false, true), false);
            Check.due("gain after restart", pipe.gain(0), false);
        }
    }

    private static void bytes120() {
        Check.about("The source takes at most 120 bytes after start()");
        for (int count = 1; count <= 4; count++) {
            FilterPipe pipe = new FilterPipe(1);
            pipe.start();
            for (int i = 0; i < 120 / count; i++) {
                Check.due("bytes " + count * (i + 1), pipe.bytes(count, i), count);
            }
            Check.due("120 wait", pipe.waiting(0), 120);
            for (int more = 1; more <= 4; more++) {
                Check.due((120 + more) + " by " + more, pipe.bytes(more, 0), 0);
            }
            Check.due("still 120 wait", pipe.waiting(0), 120);
        }
        for (int bits = 8; bits <= 32; bits += 8) {
            FilterPipe pipe = new FilterPipe(12);
            pipe.format(bits, false, false);
            pipe.format(8, false, true);
            pipe.start();
            for (int i = 0; i < 30; i++) {
                pipe.bytes(4, 0x03020100 + i * 0x04040404);
            }
            Pipes.drain(pipe);
            int samples = 120 * 8 / bits;
            Check.due("all are samples of " + bits + " bits", pipe.waiting(3), samples);
            Check.due("none waits", pipe.waiting(0), 0);
            // Byte 119 is the highest of the last sample: 119.46 of 128, but for 8 bits, where 0 is at 128.
            Check.due("the last of " + bits + " bits", pipe.sinkByte(samples - 1), bits == 8 ? 119 : 128 + 119);
        }
    }

    private static void bytes121AsAWhole() {
        Check.about("more than 120 bytes would have come: none of them goes");
        for (int came = 117; came < 120; came++) {
            FilterPipe pipe = new FilterPipe(1);
            pipe.start();
            for (int i = 0; i < came; i++) {
                pipe.bytes(1, i);
            }
            for (int count = 4; count > 120 - came; count--) {
                Check.due(came + " and " + count, pipe.bytes(count, 0), 0);
                Check.due(came + " wait", pipe.waiting(0), came);
            }
            Check.due(came + " and the last ones", pipe.bytes(120 - came, 0), 120 - came);
            Check.due("120 wait", pipe.waiting(0), 120);
            Check.due("121", pipe.bytes(1, 0), 0);
        }
    }

    private static void takenBytesCount() {
        Check.about("at most 120 bytes: those that were taken count too");
        FilterPipe pipe = Pipes.ofBytes(12);
        for (int i = 0; i < 30; i++) {
            Check.due("bytes " + 4 * (i + 1), pipe.bytes(4, 0), 4);
            pipe.produce(8);
            pipe.consume(4);
        }
        Check.due("none waits", pipe.waiting(0), 0);
        Check.due("121", pipe.bytes(1, 0), 0);
        Check.due("124", pipe.bytes(4, 0), 0);
        Check.due("all went into the sink", pipe.waiting(3), 120);
    }

    private static void bytesAfterRestart() {
        Check.about("The source takes at most 120 bytes after restart()");
        FilterPipe pipe = Pipes.ofBytes(12);
        for (int time = 0; time < 4; time++) {
            for (int i = 0; i < 30; i++) {
                Check.due("time " + time + ", bytes " + 4 * (i + 1), pipe.bytes(4, 0), 4);
            }
            Check.due("time " + time + ": 121", pipe.bytes(1, 0), 0);
            pipe.produce(7 * time);
            pipe.restart();
        }
        pipe.bytes(3, 0);
        pipe.restart();
        for (int i = 0; i < 30; i++) {
            Check.due("bytes before the restart are gone, " + 4 * (i + 1), pipe.bytes(4, 0), 4);
        }
    }
}
