import java.math.BigInteger;

/**
 * The edges that promises 1 to 8 name: the last number that is taken and the first that is refused, on both sides, and
 * that a refused call changes nothing. The answers due are worked out by hand or by exact fractions.
 */
public final class BuildingEdgesTest {
    private static final int LEAST = Integer.MIN_VALUE;
    private static final int MOST = Integer.MAX_VALUE;
    private static final String[] REASONS = {"five stages are there", "it was started", "it was restarted", "it has ended"};

    private BuildingEdgesTest() {
    }

    public static void main(String[] args) {
        newObject();
        roomTooSmall();
        roomTooLarge();
        sectionNumbers();
        sectionStableByA2();
        sectionStableByA1();
        sectionNoPlace();
        halfPowerRange();
        halfPowerAlwaysStable();
        halfPowerNoPlace();
        gainRange();
        gainNoPlace();
        windowKind();
        windowLength();
        windowNoPlace();
        resampleRange();
        resampleTwo();
        resampleNoPlace();
        formatBits();
        formatEach();
        formatStarted();
        responseStage();
        responseNoSection();
        responseTangent();
        responseAngles();
        responseFloor();
        responseTooGreat();
        responseAfterStart();
        Check.end();
    }

    private interface Building {
        boolean on(FilterPipe pipe);
    }

    private static void nothing(FilterPipe pipe) {
    }

    private static void taken(String what, Building call) {
        Check.due(what, call.on(new FilterPipe(1)), true);
        FilterPipe pipe = new FilterPipe(1);
        call.on(pipe);
        Pipes.fillStages(pipe, 4);
        Check.due(what + ": takes one of five places", pipe.gain(1), false);
    }

    private static void refused(String what, Building call) {
        Twins.refused(what, 3, BuildingEdgesTest::nothing, pipe -> Twins.of(call.on(pipe)));
        FilterPipe pipe = new FilterPipe(1);
        call.on(pipe);
        Pipes.fillStages(pipe, 4);
        Check.due(what + ": takes no place", pipe.gain(1), true);
    }

    /** A stage with good numbers is refused for each of the reasons that lie in the pipe. */
    private static void noPlace(String what, Building call) {
        FilterPipe four = new FilterPipe(1);
        Pipes.fillStages(four, 4);
        Check.due(what + ": four stages are there", call.on(four), true);
        Twins.Calls[] before = {
            pipe -> Pipes.fillStages(pipe, 5), FilterPipe::start, BuildingEdgesTest::restarted, BuildingEdgesTest::ended};
        for (int i = 0; i < before.length; i++) {
            Twins.refused(what + ": " + REASONS[i], 2, before[i], pipe -> Twins.of(call.on(pipe)));
        }
    }

    private static void restarted(FilterPipe pipe) {
        pipe.start();
        pipe.restart();
    }

    private static void ended(FilterPipe pipe) {
        pipe.start();
        pipe.close();
        pipe.produce(2);
        pipe.consume(1);
    }

    private static void newObject() {
        Check.about("Promise 1: Building: no stages");
        FilterPipe pipe = new FilterPipe(7);
        Check.due("state()", pipe.state(), 0);
        for (int at = 0; at < 5; at++) {
            Check.due("response(" + at + ", 0)", pipe.response(at, 0), -1);
        }
        for (int i = 1; i <= 5; i++) {
            Check.due("stage " + i, pipe.gain(256), true);
        }
        Check.due("stage 6", pipe.gain(256), false);
    }

    private static int ringOf(int room) {
        FilterPipe pipe = Pipes.ofBytes(room);
        for (int i = 0; i < 4; i++) {
            pipe.bytes(4, 0);
        }
        pipe.produce(100);
        Check.due("one is held behind the full ring", pipe.waiting(1), 1);
        return pipe.waiting(2);
    }

    private static void roomTooSmall() {
        Check.about("Promise 1: 1 if room is less than 1");
        for (int room : new int[] {LEAST, -12, -1, 0, 1}) {
            Check.due("room " + room, ringOf(room), 1);
        }
        Check.due("room 2", ringOf(2), 2);
    }

    private static void roomTooLarge() {
        Check.about("Promise 1: 12 if it is more than 12");
        for (int room : new int[] {12, 13, 24, 65536 + 3, MOST}) {
            Check.due("room " + room, ringOf(room), 12);
        }
        for (int room = 1; room <= 12; room++) {
            Check.due("room " + room, ringOf(room), room);
        }
    }

    private static Building section(int... n) {
        return pipe -> pipe.section(n[0], n[1], n[2], n[3], n[4]);
    }

    private static int[] with(int place, int number) {
        int[] numbers = new int[5];
        numbers[place] = number;
        return numbers;
    }

    private static void sectionNumbers() {
        Check.about("Promise 2: false if a number isn't -32768 .. 32767");
        for (int place = 0; place < 3; place++) {
            for (int number : new int[] {-32768, -32767, -1, 0, 1, 32766, 32767}) {
                taken("b" + place + " " + number, section(with(place, number)));
            }
        }
        for (int place = 0; place < 5; place++) {
            for (int number : new int[] {LEAST, -65536, -32769, 32768, 65536, MOST}) {
                refused("number " + place + " is " + number, section(with(place, number)));
            }
        }
        // These would be STABLE if only their last bits were looked at, or if 16384 + a2 went round.
        refused("a1 goes round", section(0, 0, 0, LEAST, 0));
        refused("a2 goes round", section(0, 0, 0, 0, MOST - 16383));
        refused("a2 goes round", section(0, 0, 0, 0, LEAST + 100));
    }

    private static void sectionStableByA2() {
        Check.about("Promise 2: STABLE if a2 lies strictly between -16384 and 16384");
        taken("a2 16383", section(0, 0, 0, 0, 16383));
        refused("a2 16384", section(0, 0, 0, 0, 16384));
        refused("a2 16385", section(0, 0, 0, 0, 16385));
        refused("a2 32767", section(0, 0, 0, 0, 32767));
        taken("a2 -16383", section(0, 0, 0, 0, -16383));
        refused("a2 -16384", section(0, 0, 0, 0, -16384));
        refused("a2 -16385", section(0, 0, 0, 0, -16385));
        refused("a2 -32768", section(0, 0, 0, 0, -32768));
    }

    private static void sectionStableByA1() {
        Check.about("Promise 2: STABLE if a1 lies strictly between -(16384 + a2) and 16384 + a2");
        for (int a2 : new int[] {-16383, -16382, -8000, -1, 0, 1, 8000, 16382, 16383}) {
            int bound = 16384 + a2;
            taken("a2 " + a2 + ": just inside above", section(0, 0, 0, bound - 1, a2));
            taken("a2 " + a2 + ": just inside below", section(0, 0, 0, 1 - bound, a2));
            refused("a2 " + a2 + ": just outside above", section(0, 0, 0, bound, a2));
            refused("a2 " + a2 + ": just outside below", section(0, 0, 0, -bound, a2));
            refused("a2 " + a2 + ": further above", section(0, 0, 0, bound + 1, a2));
            refused("a2 " + a2 + ": further below", section(0, 0, 0, -bound - 1, a2));
        }
        refused("a1 -32768", section(0, 0, 0, -32768, 16383));
        refused("a1 32767", section(0, 0, 0, 32767, 16383));
    }

    private static void sectionNoPlace() {
        Check.about("Promise 2: false if five stages are there, or it was started");
        noPlace("section", section(16384, 0, 0, 0, 0));
    }

    private static void halfPowerRange() {
        Check.about("Promise 3: false if k isn't 1 .. 96");
        for (boolean high : new boolean[] {false, true}) {
            for (int k : new int[] {1, 2, 95, 96}) {
                taken("k " + k, pipe -> pipe.halfPower(k, high));
            }
            for (int k : new int[] {LEAST, -96, -1, 0, 97, 98, 257, 65537, MOST}) {
                refused("k " + k, pipe -> pipe.halfPower(k, high));
            }
        }
    }

    private static BigInteger big(long number) {
        return BigInteger.valueOf(number);
    }

    /** NEAR(above / below), below being more than 0. */
    private static int near(BigInteger above, BigInteger below) {
        BigInteger[] parts = above.add(above).add(below).divideAndRemainder(below.add(below));
        return parts[0].intValueExact() - (parts[1].signum() < 0 ? 1 : 0);
    }

    private static void halfPowerAlwaysStable() {
        Check.about("Promise 3: (It is always STABLE.)");
        for (int k = 1; k <= 96; k++) {
            BigInteger square = big(k).multiply(big(k));
            BigInteger even = big(65536).multiply(square.add(big(256)));
            BigInteger odd = big(1482912).multiply(big(k));
            BigInteger d = even.add(odd);
            int low = near(big(1073741824).multiply(square), d);
            int high = near(big(274877906944L), d);
            int a1 = near(big(2147483648L).multiply(square.subtract(big(256))), d);
            int a2 = near(big(16384).multiply(even.subtract(odd)), d);
            likeSection(k, false, low, 2 * low, low, a1, a2);
            likeSection(k, true, high, -2 * high, high, a1, a2);
        }
    }

    private static void likeSection(int k, boolean high, int... n) {
        FilterPipe one = Pipes.plain();
        FilterPipe other = Pipes.plain();
        Check.due("halfPower(" + k + ", " + high + ")", one.halfPower(k, high), true);
        Check.due("the section of " + k + ", " + high, other.section(n[0], n[1], n[2], n[3], n[4]), true);
        for (int angle = 0; angle <= 96; angle += 8) {
            Check.due("response of " + k + ", " + high, one.response(0, angle), other.response(0, angle));
        }
        int[] signal = {4000000, 0, 0, 0, -4000000, Pipes.MAX, Pipes.MIN};
        Check.due("samples of " + k + ", " + high, Pipes.whole(one, signal), Pipes.whole(other, signal));
    }

    private static void halfPowerNoPlace() {
        Check.about("Promise 3: false if five stages are there, or it was started");
        noPlace("halfPower low", pipe -> pipe.halfPower(1, false));
        noPlace("halfPower high", pipe -> pipe.halfPower(96, true));
    }

    private static void gainRange() {
        Check.about("Promise 4: false if g isn't -1024 .. 1024");
        for (int g : new int[] {-1024, -1023, -1, 0, 1, 1023, 1024}) {
            taken("g " + g, pipe -> pipe.gain(g));
        }
        for (int g : new int[] {LEAST, -65536, -1025, 1025, 65536, MOST}) {
            refused("g " + g, pipe -> pipe.gain(g));
        }
    }

    private static void gainNoPlace() {
        Check.about("Promise 4: false if five stages are there, or it was started");
        noPlace("gain(-1024)", pipe -> pipe.gain(-1024));
        noPlace("gain(0)", pipe -> pipe.gain(0));
    }

    private static void windowKind() {
        Check.about("Promise 5: false if kind isn't 0 .. 2");
        for (int kind = 0; kind <= 2; kind++) {
            int one = kind;
            taken("kind " + kind, pipe -> pipe.window(one, 4));
        }
        for (int kind : new int[] {LEAST, -1, 3, 256, MOST}) {
            refused("kind " + kind, pipe -> pipe.window(kind, 4));
        }
    }

    private static void windowLength() {
        Check.about("Promise 5: false if length isn't 1 .. 8");
        for (int kind = 0; kind <= 2; kind++) {
            int one = kind;
            for (int length = 1; length <= 8; length++) {
                int long1 = length;
                taken("length " + length, pipe -> pipe.window(one, long1));
            }
            for (int length : new int[] {LEAST, -8, -1, 0, 9, 10, 257, MOST}) {
                refused("length " + length, pipe -> pipe.window(one, length));
            }
        }
    }

    private static void windowNoPlace() {
        Check.about("Promise 5: false if five stages are there, or it was started");
        noPlace("window(0, 1)", pipe -> pipe.window(0, 1));
        noPlace("window(2, 8)", pipe -> pipe.window(2, 8));
    }

    private static void resampleRange() {
        Check.about("Promise 6: false if up or down isn't 1 .. 4");
        for (int up = 1; up <= 4; up++) {
            for (int down = 1; down <= 4; down++) {
                int one = up;
                int other = down;
                taken(up + ", " + down, pipe -> pipe.resample(one, other));
            }
        }
        for (int wrong : new int[] {LEAST, -4, -1, 0, 5, 6, 8, 257, MOST}) {
            for (int good = 1; good <= 4; good++) {
                int other = good;
                refused(wrong + ", " + good, pipe -> pipe.resample(wrong, other));
                refused(good + ", " + wrong, pipe -> pipe.resample(other, wrong));
            }
            refused(wrong + ", " + wrong, pipe -> pipe.resample(wrong, wrong));
        }
    }

    private static void resampleTwo() {
        Check.about("Promise 6: false if two RESAMPLERS are there");
        FilterPipe pipe = new FilterPipe(1);
        Check.due("refused ones do not count", pipe.resample(0, 1) || pipe.resample(1, 5), false);
        Check.due("first", pipe.resample(1, 1), true);
        Check.due("second", pipe.resample(4, 1), true);
        Check.due("third", pipe.resample(1, 1), false);
        Check.due("section", pipe.section(1, 0, 0, 0, 0), true);
        Check.due("third after a section", pipe.resample(2, 3), false);
        Check.due("gain", pipe.gain(0), true);
        Check.due("window", pipe.window(0, 1), true);
        Check.due("third as sixth", pipe.resample(2, 3), false);
        Twins.refused("third", 2, p -> {
            p.resample(3, 1);
            p.resample(1, 1);
        }, p -> Twins.of(p.resample(1, 1)));
    }

    private static void resampleNoPlace() {
        Check.about("Promise 6: false if five stages are there, or it was started");
        noPlace("resample(1, 1)", pipe -> pipe.resample(1, 1));
        noPlace("resample(4, 3)", pipe -> pipe.resample(4, 3));
    }

    private static void formatBits() {
        Check.about("Promise 7: false if bits is another number");
        for (boolean out : new boolean[] {false, true}) {
            for (int bits : new int[] {8, 16, 24, 32}) {
                Check.due("bits " + bits, new FilterPipe(1).format(bits, false, out), true);
                Check.due("bits " + bits, new FilterPipe(1).format(bits, true, out), true);
            }
            for (int bits = -40; bits <= 300; bits++) {
                boolean known = bits == 8 || bits == 16 || bits == 24 || bits == 32;
                Check.due("bits " + bits, new FilterPipe(1).format(bits, true, out), known);
            }
            for (int bits : new int[] {LEAST, LEAST + 8, -8, 0, 7, 9, 15, 17, 23, 25, 31, 33, 40, 264, MOST}) {
                Twins.refused("bits " + bits, 3, BuildingEdgesTest::oddFormats, pipe -> Twins.of(pipe.format(bits, false, out)));
            }
        }
    }

    private static void oddFormats(FilterPipe pipe) {
        pipe.format(24, true, false);
        pipe.format(32, true, true);
    }

    private static void formatEach() {
        Check.about("Promise 7: the format of the source (out: of the sink) becomes that");
        for (boolean out : new boolean[] {false, true}) {
            FilterPipe pipe = new FilterPipe(1);
            pipe.format(8, false, out);
            pipe.format(32, true, out);
            pipe.start();
            pipe.bytes(4, 0x04030201);
            pipe.produce(2);
            pipe.consume(1);
            int[] due = out ? new int[] {2, 1, 0, 0, -1} : new int[] {2, 1, -1, -1, -1};
            for (int i = 0; i < due.length; i++) {
                Check.due((out ? "sink" : "source") + " of 32 bits, byte " + i, pipe.sinkByte(i), due[i]);
            }
            Check.due((out ? "source" : "sink") + " stays at 16 bits", pipe.waiting(0), out ? 2 : 0);
        }
    }

    private static void formatStarted() {
        Check.about("Promise 7: false if it was started");
        Twins.Calls[] before = {FilterPipe::start, BuildingEdgesTest::restarted, BuildingEdgesTest::ended};
        for (int i = 0; i < before.length; i++) {
            for (int bits = 8; bits <= 32; bits += 8) {
                int width = bits;
                Twins.refused(REASONS[i + 1], 2, before[i], pipe -> Twins.of(pipe.format(width, true, false)));
                Twins.refused(REASONS[i + 1], 2, before[i], pipe -> Twins.of(pipe.format(width, true, true)));
            }
        }
    }

    private static void responseStage() {
        Check.about("Promise 8: -1 if there's no such stage");
        for (int stages = 0; stages <= 5; stages++) {
            FilterPipe pipe = new FilterPipe(1);
            for (int i = 0; i < stages; i++) {
                // Each one has another response, so that one stage is not taken for another.
                pipe.section(16384 >> i, 0, 0, 0, 0);
            }
            for (int at = 0; at < 7; at++) {
                Check.due(stages + " stages: response(" + at + ", 0)", pipe.response(at, 0), at < stages ? 4096 >> 2 * at : -1);
            }
            for (int at : new int[] {LEAST, -1, 256, MOST}) {
                Check.due(stages + " stages: response(" + at + ", 0)", pipe.response(at, 0), -1);
            }
        }
    }

    private static void responseNoSection() {
        Check.about("Promise 8: -1 if it is no SECTION");
        FilterPipe pipe = new FilterPipe(1);
        pipe.gain(256);
        pipe.window(0, 1);
        pipe.resample(1, 1);
        pipe.halfPower(16, true);
        pipe.section(0, 0, 0, 0, 0);
        int[] due = {-1, -1, -1, 0, 0};
        for (int at = 0; at < 5; at++) {
            Check.due("stage " + at, pipe.response(at, 0), due[at]);
        }
        Check.due("halfPower adds a SECTION", pipe.response(3, 16), 2048);
    }

    private static void responseTangent() {
        Check.about("Promise 8: -1 if k isn't 0 .. 96");
        FilterPipe pipe = new FilterPipe(1);
        pipe.section(16384, 0, 0, 0, 0);
        for (int k = 0; k <= 96; k++) {
            Check.due("k " + k, pipe.response(0, k), 4096);
        }
        for (int k : new int[] {LEAST, -96, -1, 97, 98, 65536, MOST}) {
            Check.due("k " + k, pipe.response(0, k), -1);
        }
    }

    private static int response(int k, int... n) {
        FilterPipe pipe = new FilterPipe(1);
        Check.due("a section", pipe.section(n[0], n[1], n[2], n[3], n[4]), true);
        return pipe.response(0, k);
    }

    private static void responseAngles() {
        Check.about("Promise 8: at the angle, 0 or more and below a half turn, whose half has the tangent k / 16");
        // |1 + 1 / z|^2 is 4 / (1 + t t), with t = k / 16: 4096 * 4 * 256 / (256 + k k)
        Check.due("0: 16384", response(0, 16384, 16384, 0, 0, 0), 16384);
        Check.due("1: 16320.2", response(1, 16384, 16384, 0, 0, 0), 16320);
        Check.due("16, a quarter turn: 8192", response(16, 16384, 16384, 0, 0, 0), 8192);
        Check.due("95: 451.9", response(95, 16384, 16384, 0, 0, 0), 451);
        Check.due("96: 442.8", response(96, 16384, 16384, 0, 0, 0), 442);
        // |1 - 1 / z|^2 is 4 t t / (1 + t t)
        Check.due("0: 0", response(0, 16384, -16384, 0, 0, 0), 0);
        Check.due("1: 63.8", response(1, 16384, -16384, 0, 0, 0), 63);
        Check.due("96: 15941.2", response(96, 16384, -16384, 0, 0, 0), 15941);
        // 1 + 1 / (z z) is 0 at a quarter turn
        Check.due("15", response(15, 16384, 0, 16384, 0, 0), 68);
        Check.due("16: exactly 0", response(16, 16384, 0, 16384, 0, 0), 0);
        Check.due("17", response(17, 16384, 0, 16384, 0, 0), 60);
    }

    private static void responseFloor() {
        Check.about("Promise 8: FLOOR(4096 times ..)");
        // 4096 b0 b0 / 2^28 is b0 b0 / 65536
        Check.due("255", response(3, 255, 0, 0, 0, 0), 0);
        Check.due("256", response(3, 256, 0, 0, 0, 0), 1);
        Check.due("362", response(3, 362, 0, 0, 0, 0), 1);
        Check.due("363", response(3, 363, 0, 0, 0, 0), 2);
        Check.due("0", response(3, 0, 0, 0, 0, 0), 0);
        Check.due("-256: the square", response(3, -256, 0, 0, 0, 0), 1);
        Check.due("-32768", response(3, -32768, 0, 0, 0, 0), 16384);
        Check.due("32767", response(3, 32767, 0, 0, 0, 0), 16383);
    }

    private static void responseTooGreat() {
        Check.about("Promise 8: 2147483647 if it is greater");
        Check.due("2147483646", response(41, 3960, -1465, -759, 24098, 16374), 2147483646);
        Check.due("2147483648", response(26, 26095, 15095, 32043, 14757, 16365), MOST);
        Check.due("2147483648 at a quarter turn", response(16, -18382, 1536, -18894, -2, 16383), MOST);
        Check.due("2147483651", response(40, 10090, 2168, 7338, 23711, 16363), MOST);
        Check.due("2147483642", response(49, -8984, -21149, -9218, 26439, 16370), 2147483642);
        Check.due("4096 * 724 * 724", response(0, 724, 0, 0, -16383, 0), 2147024896);
        Check.due("4096 * 725 * 725", response(0, 725, 0, 0, -16383, 0), MOST);
        Check.due("as great as can be", response(0, -32768, -32768, -32768, -32766, 16383), MOST);
        Check.due("2^32, 0 in its last bits", response(0, 1024, 0, 0, -16383, 0), MOST);
    }

    private static void responseAfterStart() {
        Check.about("Promise 8: before and after start()");
        FilterPipe pipe = new FilterPipe(1);
        pipe.gain(256);
        pipe.section(8192, 0, 0, 0, 0);
        for (int time = 0; time < 4; time++) {
            Check.due("time " + time + ": a section", pipe.response(1, 5), 1024);
            Check.due("time " + time + ": a gain", pipe.response(0, 5), -1);
            Check.due("time " + time + ": none", pipe.response(2, 5), -1);
            if (!pipe.start()) {
                pipe.bytes(4, 0x7fff7fff);
                pipe.close();
                pipe.produce(100);
                pipe.consume(time);
            }
        }
    }
}
