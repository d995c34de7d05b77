/**
 * Promises 1 to 8: a new object, the stages, the formats, and response. The answers due are worked out by hand, the
 * numbers of halfPower and most of response by exact fractions outside the program.
 */
public final class BuildingTest {
    private static final int MAX = Pipes.MAX;
    private static final int MIN = Pipes.MIN;

    private BuildingTest() {
    }

    public static void main(String[] args) {
        newObject();
        roomOfRing();
        sectionAcceptance();
        sectionSamples();
        halfPowerAcceptance();
        halfPowerNumbers();
        gain();
        window();
        windowKinds();
        resampleAcceptance();
        resampleSamples();
        resampleTimes();
        resampleFlush();
        chainOrder();
        format();
        sourceFormats();
        sinkFormats();
        bytesThatStay();
        response();
        Check.end();
    }

    private static void newObject() {
        FilterPipe pipe = new FilterPipe(4);
        Check.due("1: state()", pipe.state(), 0);
        for (int where = 0; where < 4; where++) {
            Check.due("1: waiting(" + where + ")", pipe.waiting(where), 0);
        }
        Check.due("1: response(0, 0)", pipe.response(0, 0), -1);
        Check.due("1: sinkByte(0)", pipe.sinkByte(0), -1);
        Check.due("1: power(0)", pipe.power(0), -1);
        for (int i = 0; i < 5; i++) {
            Check.due("1: five stages have place", pipe.gain(1), true);
        }
        Check.due("1: with no stage, the samples themselves", Pipes.whole(Pipes.plain(), 5, -7, MAX, MIN), 5, -7, MAX, MIN);
    }

    private static void roomOfRing() {
        int[] rooms = {Integer.MIN_VALUE, -1, 0, 1, 2, 7, 11, 12, 13, 1000, Integer.MAX_VALUE};
        int[] due = {1, 1, 1, 1, 2, 7, 11, 12, 12, 12, 12};
        for (int i = 0; i < rooms.length; i++) {
            FilterPipe pipe = Pipes.ofBytes(rooms[i]);
            for (int j = 0; j < 5; j++) {
                pipe.bytes(4, 0);
            }
            pipe.produce(100);
            Check.due("1: ring of " + rooms[i], pipe.waiting(2), due[i]);
            Check.due("1: held behind ring of " + rooms[i], pipe.waiting(1), 1);
        }
    }

    private static void section(boolean due, int b0, int b1, int b2, int a1, int a2) {
        String call = "2: section(" + b0 + ", " + b1 + ", " + b2 + ", " + a1 + ", " + a2 + ")";
        FilterPipe pipe = new FilterPipe(1);
        Check.due(call, pipe.section(b0, b1, b2, a1, a2), due);
        Check.due(call + ": is there", pipe.response(0, 0) >= 0, due);
    }

    private static void sectionAcceptance() {
        for (int edge : new int[] {-32768, 32767}) {
            section(true, edge, 0, 0, 0, 0);
            section(true, 0, edge, 0, 0, 0);
            section(true, 0, 0, edge, 0, 0);
        }
        for (int beyond : new int[] {-32769, 32768, Integer.MIN_VALUE, Integer.MAX_VALUE, 65536}) {
            section(false, beyond, 0, 0, 0, 0);
            section(false, 0, beyond, 0, 0, 0);
            section(false, 0, 0, beyond, 0, 0);
            section(false, 0, 0, 0, beyond, 0);
            section(false, 0, 0, 0, 0, beyond);
        }
        section(true, 0, 0, 0, 0, 16383);
        section(false, 0, 0, 0, 0, 16384);
        section(true, 0, 0, 0, 0, -16383);
        section(false, 0, 0, 0, 0, -16384);
        section(true, 0, 0, 0, 16383, 0);
        section(false, 0, 0, 0, 16384, 0);
        section(true, 0, 0, 0, -16383, 0);
        section(false, 0, 0, 0, -16384, 0);
        section(true, 0, 0, 0, 32766, 16383);
        section(false, 0, 0, 0, 32767, 16383);
        section(true, 0, 0, 0, -32766, 16383);
        section(false, 0, 0, 0, -32767, 16383);
        section(false, 0, 0, 0, 1, -16383);
        section(false, 0, 0, 0, -1, -16383);
        // The bound of a1 must not be worked out with an a2 that makes it wrap round.
        section(false, 0, 0, 0, 0, Integer.MAX_VALUE - 16383);

        FilterPipe full = new FilterPipe(1);
        Pipes.fillStages(full, 4);
        Check.due("2: fifth stage", full.section(1, 0, 0, 0, 0), true);
        Check.due("2: sixth stage", full.section(1, 0, 0, 0, 0), false);
        FilterPipe started = new FilterPipe(1);
        started.start();
        Check.due("2: after start", started.section(1, 0, 0, 0, 0), false);
        Check.due("2: after start, none is there", started.response(0, 0), -1);
    }

    private static FilterPipe withSection(int b0, int b1, int b2, int a1, int a2) {
        FilterPipe pipe = Pipes.plain();
        pipe.section(b0, b1, b2, a1, a2);
        return pipe;
    }

    private static void sectionSamples() {
        Check.due("2: b", Pipes.whole(withSection(16384, 8192, -4096, 0, 0), 1000, 0, 0, 0, 7), 1000, 500, -250, 0, 7);
        Check.due("2: a1", Pipes.whole(withSection(16384, 0, 0, -8192, 0), 1000, 0, 0, 0, 0), 1000, 500, 250, 125, 62);
        Check.due("2: a2", Pipes.whole(withSection(16384, 0, 0, 0, 8192), 1000, 0, 0, 0, 0, 0, 0, 0, 0),
                1000, 0, -500, 0, 250, 0, -125, 0, 62);
        Check.due("2: floor below 0", Pipes.whole(withSection(8192, 0, 0, 0, 0), -1, 1, -3, 3), -1, 0, -2, 1);
        Check.due("2: clipped above, and so fed back", Pipes.whole(withSection(32767, 0, 0, -16383, 0), MAX, 0), MAX, 8388095);
        Check.due("2: clipped below, and so fed back", Pipes.whole(withSection(32767, 0, 0, -16383, 0), MIN, 0), MIN, -8388096);
        Check.due("2: long sums", Pipes.whole(withSection(-32768, 32767, -32768, 0, 0), MIN, MAX, MIN), MAX, MIN, MAX);
        Check.due("2: flush makes nothing", Pipes.whole(withSection(16384, 16384, 16384, 0, 0), 5), 5);
    }

    private static void halfPowerAcceptance() {
        for (int k : new int[] {Integer.MIN_VALUE, -1, 0, 97, 65537, Integer.MAX_VALUE}) {
            FilterPipe pipe = new FilterPipe(1);
            Check.due("3: halfPower(" + k + ", false)", pipe.halfPower(k, false), false);
            Check.due("3: halfPower(" + k + ", true)", pipe.halfPower(k, true), false);
            Check.due("3: none is there", pipe.response(0, 1), -1);
        }
        FilterPipe full = new FilterPipe(1);
        Pipes.fillStages(full, 4);
        Check.due("3: fifth stage", full.halfPower(96, true), true);
        Check.due("3: sixth stage", full.halfPower(96, true), false);
        FilterPipe started = new FilterPipe(1);
        started.start();
        Check.due("3: after start", started.halfPower(1, false), false);
    }

    private static void halfPowerNumbers() {
        // k, then b0 of the low pass, b0 of the high pass, a1, a2
        int[][] due = {
            {1, 59, 15000, -29882, 13732}, {2, 215, 13740, -27051, 11526}, {4, 723, 11570, -21694, 8203},
            {15, 4493, 5112, -1238, 2828}, {16, 4799, 4799, 0, 2811}, {17, 5093, 4512, 1163, 2826},
            {50, 10537, 1079, 18915, 6847}, {95, 12936, 367, 25138, 10222}, {96, 12967, 360, 25214, 10271}};
        for (int[] row : due) {
            sameSection(row[0], false, row[1], 2 * row[1], row[3], row[4]);
            sameSection(row[0], true, row[2], -2 * row[2], row[3], row[4]);
        }
        FilterPipe pipe = new FilterPipe(1);
        pipe.halfPower(16, false);
        Check.due("3: half the power at the angle", pipe.response(0, 16), 2048);
    }

    private static void sameSection(int k, boolean high, int b0, int b1, int a1, int a2) {
        FilterPipe one = Pipes.plain();
        Check.due("3: halfPower(" + k + ", " + high + ")", one.halfPower(k, high), true);
        int[] signal = {MAX, 0, 0, 4000000, -3999999, MIN, 17};
        int[] want = Pipes.whole(withSection(b0, b1, b0, a1, a2), signal);
        Check.due("3: samples of halfPower(" + k + ", " + high + ")", Pipes.whole(one, signal), want);
    }

    private static FilterPipe withGain(int g) {
        FilterPipe pipe = Pipes.plain();
        Check.due("4: gain(" + g + ")", pipe.gain(g), true);
        return pipe;
    }

    private static void gain() {
        Check.due("4: 1/256", Pipes.whole(withGain(1), 255, 256, -1, -256, -257), 0, 1, -1, -1, -2);
        Check.due("4: 1", Pipes.whole(withGain(256), MAX, MIN), MAX, MIN);
        Check.due("4: -1", Pipes.whole(withGain(-256), MIN, MAX), MAX, -MAX);
        Check.due("4: 4", Pipes.whole(withGain(1024), 2097151, 2097152, -2097152, -2097153, MAX), 8388604, MAX, MIN, MIN, MAX);
        Check.due("4: -4", Pipes.whole(withGain(-1024), 2097152, 2097153, MIN), MIN, MIN, MAX);
        Check.due("4: 0", Pipes.whole(withGain(0), MIN), 0);
        FilterPipe pipe = new FilterPipe(1);
        for (int g : new int[] {-1025, 1025, Integer.MIN_VALUE, Integer.MAX_VALUE}) {
            Check.due("4: gain(" + g + ")", pipe.gain(g), false);
        }
        // The refused ones took no place.
        Pipes.fillStages(pipe, 4);
        Check.due("4: fifth stage", pipe.gain(1), true);
        Check.due("4: sixth stage", pipe.gain(1), false);
        FilterPipe started = new FilterPipe(1);
        started.start();
        Check.due("4: after start", started.gain(1), false);
    }

    private static FilterPipe withWindow(int kind, int length) {
        FilterPipe pipe = Pipes.plain();
        Check.due("5: window(" + kind + ", " + length + ")", pipe.window(kind, length), true);
        return pipe;
    }

    private static void window() {
        int[][] wrong = {{-1, 3}, {3, 3}, {0, 0}, {0, 9}, {2, -1}, {Integer.MIN_VALUE, 1}, {1, Integer.MAX_VALUE}, {1, Integer.MIN_VALUE}};
        FilterPipe pipe = new FilterPipe(1);
        for (int[] row : wrong) {
            Check.due("5: window(" + row[0] + ", " + row[1] + ")", pipe.window(row[0], row[1]), false);
        }
        Pipes.fillStages(pipe, 4);
        Check.due("5: fifth stage", pipe.window(0, 1), true);
        Check.due("5: sixth stage", pipe.window(0, 1), false);
        FilterPipe started = new FilterPipe(1);
        started.start();
        Check.due("5: after start", started.window(0, 1), false);
    }

    private static void windowKinds() {
        Check.due("5: kind 0 live", Pipes.live(withWindow(0, 3), 10, 20, 31), 3, 10, 20);
        Check.due("5: kind 0 whole", Pipes.whole(withWindow(0, 3), 10, 20, 31), 3, 10, 20, 17, 10);
        Check.due("5: kind 0 floor", Pipes.whole(withWindow(0, 3), -10, -20, -31), -4, -10, -21, -17, -11);
        Check.due("5: kind 1 even", Pipes.whole(withWindow(1, 4), 600, 0, 0, 0, 0), 100, 200, 200, 100, 0, 0, 0, 0);
        Check.due("5: kind 1 odd", Pipes.whole(withWindow(1, 5), 900), 100, 200, 300, 200, 100);
        Check.due("5: kind 2", Pipes.whole(withWindow(2, 4), 200), 40, 60, 60, 40);
        Check.due("5: kind 2 of 8", Pipes.whole(withWindow(2, 8), 1200), 80, 140, 180, 200, 200, 180, 140, 80);
        Check.due("5: kind 1 of 8", Pipes.whole(withWindow(1, 8), 2000, 0), 100, 200, 300, 400, 400, 300, 200, 100, 0);
        Check.due("5: kind 0 of 8", Pipes.whole(withWindow(0, 8), MAX, MAX, MAX, MAX, MAX, MAX, MAX, MAX, MAX)[8], MAX);
        for (int kind = 0; kind < 3; kind++) {
            Check.due("5: length 1", Pipes.whole(withWindow(kind, 1), 7, MIN), 7, MIN);
            Check.due("5: no sample, no flush", Pipes.whole(withWindow(kind, 8)));
            Check.due("5: lowest stays", Pipes.whole(withWindow(kind, 2), MIN, MIN, MIN), MIN / 2, MIN, MIN, MIN / 2);
        }
    }

    private static FilterPipe withResampler(int up, int down) {
        FilterPipe pipe = Pipes.plain();
        Check.due("6: resample(" + up + ", " + down + ")", pipe.resample(up, down), true);
        return pipe;
    }

    private static void resampleAcceptance() {
        FilterPipe pipe = new FilterPipe(1);
        for (int wrong : new int[] {0, 5, -1, Integer.MIN_VALUE, Integer.MAX_VALUE}) {
            Check.due("6: resample(" + wrong + ", 1)", pipe.resample(wrong, 1), false);
            Check.due("6: resample(1, " + wrong + ")", pipe.resample(1, wrong), false);
        }
        Check.due("6: first", pipe.resample(1, 1), true);
        Check.due("6: second", pipe.resample(3, 3), true);
        Check.due("6: third", pipe.resample(2, 1), false);
        Pipes.fillStages(pipe, 2);
        Check.due("6: a third one took no place", pipe.gain(1), true);
        FilterPipe full = new FilterPipe(1);
        Pipes.fillStages(full, 4);
        Check.due("6: fifth stage", full.resample(4, 4), true);
        Check.due("6: sixth stage", full.resample(4, 4), false);
        FilterPipe started = new FilterPipe(1);
        started.start();
        Check.due("6: after start", started.resample(1, 1), false);
    }

    private static void resampleSamples() {
        Check.due("6: 1 1", Pipes.whole(withResampler(1, 1), 5, MIN, MAX), 5, MIN, MAX);
        Check.due("6: 4 4", Pipes.whole(withResampler(4, 4), 5, MIN, MAX), 5, MIN, MAX);
        Check.due("6: 2 1", Pipes.whole(withResampler(2, 1), 101), 50, 101, 50, 0);
        Check.due("6: 2 1 below 0", Pipes.whole(withResampler(2, 1), -101), -51, -101, -51, 0);
        Check.due("6: 4 1", Pipes.whole(withResampler(4, 1), 400), 100, 200, 300, 400, 300, 200, 100, 0, 0, 0);
        Check.due("6: 3 1", Pipes.whole(withResampler(3, 1), 300, 600), 100, 200, 300, 400, 500, 600, 400, 200, 0, 0);
        Check.due("6: 1 2", Pipes.whole(withResampler(1, 2), 100, 200, 300), 25, 200, 75);
        Check.due("6: 2 4 is 1 2", Pipes.whole(withResampler(2, 4), 100, 200, 300), 25, 200, 75);
        Check.due("6: 4 2 is 2 1", Pipes.whole(withResampler(4, 2), 101), 50, 101, 50, 0);
        Check.due("6: 1 4", Pipes.whole(withResampler(1, 4), 16, 32, 48, 64, 80), 1, 33, 26);
        // R = 3, weights 1 2 3 2 1; u = 90 0 180 0: y = 2 (..) / 9 at 0, 3, 6
        Check.due("6: 2 3", Pipes.whole(withResampler(2, 3), 90, 180), 20, 120, 40);
        // u = 90 0 0 180 0 0: y = 3 (..) / 9 at 0, 2, 4, 6, 8
        Check.due("6: 3 2", Pipes.whole(withResampler(3, 2), 90, 180), 30, 90, 150, 120, 0);
        Check.due("6: 2 3 is clipped above", Pipes.live(withResampler(2, 3), MAX, MAX, MAX, MAX, MAX, MAX, MAX)[4], MAX);
        Check.due("6: 2 3 is clipped below", Pipes.live(withResampler(2, 3), MIN, MIN, MIN, MIN, MIN, MIN, MIN)[4], MIN);
    }

    private static void resampleTimes() {
        int[][] made = {
            {4, 1, 4, 4, 4, 4, 4, 4}, {1, 4, 1, 0, 0, 0, 1, 0}, {3, 2, 2, 1, 2, 1, 2, 1}, {2, 3, 1, 1, 0, 1, 1, 0},
            {4, 3, 2, 1, 1, 2, 1, 1}, {3, 4, 1, 1, 1, 0, 1, 1}, {2, 4, 1, 0, 1, 0, 1, 0}, {3, 3, 1, 1, 1, 1, 1, 1}};
        for (int[] row : made) {
            FilterPipe pipe = withResampler(row[0], row[1]);
            pipe.start();
            for (int i = 2; i < row.length; i++) {
                Pipes.feed(pipe, 1000);
                Check.due("6: a step takes a sample", pipe.produce(1), 1);
                Check.due("6: made of sample " + (i - 2) + " by " + row[0] + ", " + row[1], pipe.waiting(1), row[i]);
                pipe.produce(100);
                pipe.consume(100);
            }
        }
    }

    private static void resampleFlush() {
        // up, down, samples that come, samples that a flush makes
        int[][] flushed = {
            {4, 1, 1, 6}, {4, 1, 0, 0}, {3, 1, 2, 4}, {2, 1, 1, 2}, {1, 1, 3, 0}, {1, 2, 1, 1}, {1, 2, 2, 1},
            {1, 4, 1, 1}, {1, 4, 2, 1}, {1, 4, 3, 2}, {1, 4, 4, 2}, {2, 3, 1, 1}, {2, 3, 2, 1}, {2, 3, 3, 2}, {4, 3, 1, 2}};
        for (int[] row : flushed) {
            FilterPipe pipe = withResampler(row[0], row[1]);
            pipe.start();
            for (int i = 0; i < row[2]; i++) {
                Pipes.feed(pipe, 1000);
            }
            Pipes.drain(pipe);
            pipe.close();
            Check.due("6: the flush is one step", pipe.produce(1), 1);
            Check.due("6: flushed by " + row[0] + ", " + row[1] + " after " + row[2], pipe.waiting(1), row[3]);
        }
    }

    private static void chainOrder() {
        FilterPipe pipe = Pipes.plain();
        pipe.gain(128);
        pipe.window(0, 2);
        pipe.gain(512);
        // 5 / 2 is 2, then means 1, 1, doubled: 2, 2; and the flushed mean goes through the last gain too
        Check.due("chain: in order, each rounding", Pipes.whole(pipe, 5), 2, 2);

        FilterPipe windows = Pipes.plain();
        windows.window(0, 2);
        windows.window(0, 2);
        // The second window gets 50, 50 and is flushed after both.
        Check.due("chain: flushed one after the other", Pipes.whole(windows, 100), 25, 50, 25);

        FilterPipe most = new FilterPipe(12);
        most.format(8, false, false);
        for (int i = 0; i < 3; i++) {
            most.window(0, 8);
        }
        most.resample(4, 1);
        most.resample(4, 1);
        most.start();
        for (int i = 0; i < 30; i++) {
            most.bytes(4, -1);
        }
        Pipes.drain(most);
        Check.due("chain: 120 samples 16 times", most.waiting(3), 1920);
        most.close();
        most.produce(1);
        Check.due("chain: the longest flush", most.waiting(1), 366);
        Pipes.drain(most);
        Check.due("chain: the longest signal", most.waiting(3), 2286);
        Check.due("chain: its last byte", most.sinkByte(2 * 2286 - 1), 0);
        Check.due("chain: behind its last byte", most.sinkByte(2 * 2286), -1);
    }

    private static void sameBytes(int bits, int word) {
        FilterPipe pipe = new FilterPipe(4);
        pipe.format(bits, false, false);
        pipe.format(bits, false, true);
        pipe.start();
        pipe.bytes(bits / 8, word);
        Pipes.drain(pipe);
        for (int i = 0; i < bits / 8; i++) {
            Check.due("7: " + word + " from " + bits + " bits to " + bits, pipe.sinkByte(i), word >>> 8 * i & 255);
        }
    }

    private static void bytesThatStay() {
        for (int v : new int[] {0, 1, 127, 128, 129, 255}) {
            sameBytes(8, v);
            sameBytes(16, v << 8 | v);
            sameBytes(24, v << 16 | v << 8 | v);
            sameBytes(32, v << 24 | v << 16 | v << 8);
        }
    }

    private static void format() {
        FilterPipe pipe = new FilterPipe(1);
        for (int bits : new int[] {8, 16, 24, 32}) {
            Check.due("7: format(" + bits + ")", pipe.format(bits, true, true), true);
            Check.due("7: format(" + bits + ")", pipe.format(bits, false, false), true);
        }
        for (int bits : new int[] {0, 1, 7, 9, 12, 17, 40, 64, -8, -16, Integer.MIN_VALUE, Integer.MAX_VALUE}) {
            Check.due("7: format(" + bits + ")", pipe.format(bits, false, false), false);
            Check.due("7: format(" + bits + ")", pipe.format(bits, false, true), false);
        }
        pipe.start();
        Check.due("7: after start", pipe.format(16, false, false), false);
        Check.due("7: after start", pipe.format(16, false, true), false);
        pipe.bytes(3, 0);
        Check.due("7: refused formats change nothing, 3 bytes are no sample", pipe.produce(1), 0);
        pipe.bytes(1, 1);
        Check.due("7: 4 bytes are one", pipe.produce(2), 2);
        pipe.consume(1);
        Check.due("7: high byte first", pipe.sinkByte(0), 1);
        Check.due("7: low byte last", pipe.sinkByte(3), 0);
    }

    private static int sampleOf(int bits, boolean highFirst, int word) {
        FilterPipe pipe = new FilterPipe(1);
        pipe.format(bits, highFirst, false);
        pipe.format(24, false, true);
        pipe.start();
        pipe.bytes(bits / 8, word);
        pipe.produce(2);
        pipe.consume(1);
        return Pipes.sunk(pipe)[0];
    }

    private static void sourceFormats() {
        Check.due("7: source 8", sampleOf(8, false, 0), -128 * 65536);
        Check.due("7: source 8", sampleOf(8, true, 128), 0);
        Check.due("7: source 8", sampleOf(8, false, 255), 127 * 65536);
        Check.due("7: source 16 low", sampleOf(16, false, 0x7fff), 32767 * 256);
        Check.due("7: source 16 low", sampleOf(16, false, 0x8000), -32768 * 256);
        Check.due("7: source 16 low", sampleOf(16, false, 0x0102), 0x0102 * 256);
        Check.due("7: source 16 high", sampleOf(16, true, 0x0102), 0x0201 * 256);
        Check.due("7: source 16 high", sampleOf(16, true, 0x00ff), -256 * 256);
        Check.due("7: source 24 low", sampleOf(24, false, 0x7fffff), MAX);
        Check.due("7: source 24 low", sampleOf(24, false, 0x800000), MIN);
        Check.due("7: source 24 low", sampleOf(24, false, 0x010203), 0x010203);
        Check.due("7: source 24 high", sampleOf(24, true, 0x010203), 0x030201);
        Check.due("7: source 24 high", sampleOf(24, true, 0x0000ff), -65536);
        Check.due("7: source 32 low", sampleOf(32, false, Integer.MAX_VALUE), MAX);
        Check.due("7: source 32 low", sampleOf(32, false, Integer.MIN_VALUE), MIN);
        Check.due("7: source 32 low", sampleOf(32, false, -1), -1);
        Check.due("7: source 32 low", sampleOf(32, false, 255), 0);
        Check.due("7: source 32 low", sampleOf(32, false, 0x01020304), 0x010203);
        Check.due("7: source 32 high", sampleOf(32, true, 0x01020304), 0x040302);

        FilterPipe first = new FilterPipe(1);
        first.start();
        first.bytes(2, 0x0102);
        Check.due("7: 16 bits at first", first.produce(2), 2);
        first.consume(1);
        Check.due("7: low first at first", first.sinkByte(0), 2);
        Check.due("7: low first at first", first.sinkByte(1), 1);
        Check.due("7: 16 bits at first", first.sinkByte(2), -1);
    }

    private static void bytesOf(int bits, boolean highFirst, int sample, int... due) {
        FilterPipe pipe = new FilterPipe(1);
        pipe.format(24, false, false);
        pipe.format(bits, highFirst, true);
        pipe.start();
        Pipes.feed(pipe, sample);
        pipe.produce(2);
        pipe.consume(1);
        String what = "7: sink " + bits + (highFirst ? " high of " : " low of ") + sample;
        for (int i = 0; i < due.length; i++) {
            Check.due(what + ", byte " + i, pipe.sinkByte(i), due[i]);
        }
        Check.due(what + ", no more", pipe.sinkByte(due.length), -1);
    }

    private static void sinkFormats() {
        bytesOf(8, false, 0, 128);
        bytesOf(8, false, 32767, 128);
        bytesOf(8, true, 32768, 129);
        bytesOf(8, false, -32768, 128);
        bytesOf(8, false, -32769, 127);
        bytesOf(8, false, MAX, 255);
        bytesOf(8, false, 127 * 65536 + 32768, 255);
        bytesOf(8, false, 127 * 65536 - 32769, 254);
        bytesOf(8, false, MIN, 0);
        bytesOf(16, false, MAX, 0xff, 0x7f);
        bytesOf(16, true, MAX, 0x7f, 0xff);
        bytesOf(16, true, MIN, 0x80, 0);
        bytesOf(16, true, 127, 0, 0);
        bytesOf(16, true, 128, 0, 1);
        bytesOf(16, true, -128, 0, 0);
        bytesOf(16, true, -129, 0xff, 0xff);
        bytesOf(24, false, 0x010203, 3, 2, 1);
        bytesOf(24, true, 0x010203, 1, 2, 3);
        bytesOf(24, true, -2, 0xff, 0xff, 0xfe);
        bytesOf(32, false, 0x010203, 0, 3, 2, 1);
        bytesOf(32, true, 0x010203, 1, 2, 3, 0);
        bytesOf(32, true, MIN, 0x80, 0, 0, 0);
        bytesOf(32, false, MAX, 0, 0xff, 0xff, 0x7f);
    }

    private static void responseOf(int due, int k, int... numbers) {
        FilterPipe pipe = new FilterPipe(1);
        pipe.gain(3);
        pipe.section(numbers[0], numbers[1], numbers[2], numbers[3], numbers[4]);
        Check.due("8: response(1, " + k + ")", pipe.response(1, k), due);
        pipe.start();
        Check.due("8: response(1, " + k + ") after start", pipe.response(1, k), due);
    }

    private static void response() {
        responseOf(4096, 0, 16384, 0, 0, 0, 0);
        responseOf(8192, 16, 16384, 16384, 0, 0, 0);
        responseOf(4096, 0, 8192, 0, 0, -8192, 0);
        responseOf(0, 16, 16384, 0, 16384, 0, 0);
        responseOf(68, 15, 16384, 0, 16384, 0, 0);
        responseOf(5557, 5, 16384, 8192, -4096, 4000, -3000);
        responseOf(4096, 16, 1, 0, 0, 0, 16383);
        responseOf(4096, 16, 32767, -32768, 32767, 0, -16383);
        responseOf(2147024896, 0, 724, 0, 0, -16383, 0);
        responseOf(2147483647, 0, 725, 0, 0, -16383, 0);
        responseOf(2147483647, 0, 32767, 32767, 32767, -32766, 16383);
        responseOf(2147483647, 16, 16384, 0, 0, 0, 16383);
        responseOf(0, 96, 1, 1, 1, 1, 1);
        responseOf(1024, 0, 8192, 0, 0, 0, 0);
        // 4096 (9413 / 13)^2, just below the greatest int
        responseOf(2147481151, 0, 9413, 0, 0, -16371, 0);

        FilterPipe pipe = new FilterPipe(1);
        pipe.gain(256);
        pipe.window(0, 2);
        pipe.resample(1, 1);
        pipe.section(16384, 0, 0, 0, 0);
        Check.due("8: of a gain", pipe.response(0, 1), -1);
        Check.due("8: of a window", pipe.response(1, 1), -1);
        Check.due("8: of a resampler", pipe.response(2, 1), -1);
        Check.due("8: of a section", pipe.response(3, 96), 4096);
        for (int at : new int[] {4, 5, -1, Integer.MIN_VALUE, Integer.MAX_VALUE}) {
            Check.due("8: response(" + at + ", 1)", pipe.response(at, 1), -1);
        }
        for (int k : new int[] {-1, 97, Integer.MIN_VALUE, Integer.MAX_VALUE}) {
            Check.due("8: response(3, " + k + ")", pipe.response(3, k), -1);
        }
    }
}
