import java.util.ArrayList;

/** Sampled signals in whole numbers, from bytes through a chain of stages and a small ring to bytes again. */
public final class FilterPipe {

    private static final int IDLE = 0;
    private static final int RUNNING = 1;
    private static final int ENDED = 2;
    private static final int INTERRUPTED = 3;

    private static final int LOWEST_SAMPLE = -8388608;
    private static final int HIGHEST_SAMPLE = 8388607;
    private static final int HIGHEST_INT = 2147483647;

    private static final int ONE_IN_SECTION = 16384;
    private static final int ONE_IN_GAIN = 256;
    private static final int MOST_GAIN = 1024;
    private static final int MOST_TANGENT = 96;
    private static final int LONGEST_WINDOW = 8;
    private static final int MOST_FACTOR = 4;
    private static final int BLOCK = 12;

    private static final int MOST_ROOM = 12;
    private static final int MOST_STAGES = 5;
    private static final int MOST_RESAMPLERS = 2;
    private static final int MOST_BYTES = 120;

    // No chain makes more than three windows of 8 before two resamplers of 4 to 1 do: a flush lets 3 * 7
    // samples out of the windows, they become 4 * 21 + 6 = 90, and these 4 * 90 + 6 = 366.
    private static final int MOST_HELD = 366;
    // The same chain with 120 samples of one byte: 120 + 21 become 4 * 141 + 6 = 570, and these 4 * 570 + 6.
    private static final int MOST_SUNK = 2286;

    private final Chain chain = new Chain();
    private final Source source = new Source();
    private final Row held = new Row(MOST_HELD);
    private final Row ring;
    private final Sink sink = new Sink();
    private boolean flushed;
    private int producerState = IDLE;
    private int consumerState = IDLE;

    public FilterPipe(int room) {
        ring = new Row(Math.max(1, Math.min(room, MOST_ROOM)));
    }

    public boolean section(int b0, int b1, int b2, int a1, int a2) {
        boolean allFit = fitsSection(b0) && fitsSection(b1) && fitsSection(b2) && fitsSection(a1) && fitsSection(a2);
        if (!allFit || !isStable(a1, a2) || !takesStage()) {
            return false;
        }
        chain.append(new Section(b0, b1, b2, a1, a2));
        return true;
    }

    public boolean halfPower(int k, boolean high) {
        if (k < 1 || k > MOST_TANGENT || !takesStage()) {
            return false;
        }
        long square = (long) k * k;
        long even = 65536L * (256 + square);
        long odd = 1482912L * k;
        long divisor = even + odd;
        int b0 = high ? near(274877906944L, divisor) : near(1073741824L * square, divisor);
        int b1 = high ? -2 * b0 : 2 * b0;
        int a1 = near(2147483648L * (square - 256), divisor);
        int a2 = near(16384L * (even - odd), divisor);
        chain.append(new Section(b0, b1, b0, a1, a2));
        return true;
    }

    public boolean gain(int g) {
        if (g < -MOST_GAIN || g > MOST_GAIN || !takesStage()) {
            return false;
        }
        chain.append(new Gain(g));
        return true;
    }

    public boolean window(int kind, int length) {
        if (kind < 0 || kind > 2 || length < 1 || length > LONGEST_WINDOW || !takesStage()) {
            return false;
        }
        chain.append(new Window(kind, length));
        return true;
    }

    public boolean resample(int up, int down) {
        if (!isFactor(up) || !isFactor(down) || !takesStage() || !chain.hasPlaceForResampler()) {
            return false;
        }
        chain.appendResampler(new Resampler(up, down));
        return true;
    }

    public boolean format(int bits, boolean highFirst, boolean out) {
        if (isStarted() || (bits != 8 && bits != 16 && bits != 24 && bits != 32)) {
            return false;
        }
        Layout layout = out ? sink.layout : source.layout;
        layout.choose(bits, highFirst);
        return true;
    }

    public int response(int at, int k) {
        if (k < 0 || k > MOST_TANGENT) {
            return -1;
        }
        if (chain.stage(at) instanceof Section found) {
            return found.responseAt(k);
        }
        return -1;
    }

    public boolean start() {
        if (isStarted()) {
            return false;
        }
        begin();
        return true;
    }

    public boolean restart() {
        if (!isStarted()) {
            return false;
        }
        begin();
        return true;
    }

    public int bytes(int count, int word) {
        if (!isStarted() || count < 1 || count > 4 || !source.takes(count)) {
            return 0;
        }
        for (int i = 0; i < count; i++) {
            source.addByte((word >> (8 * i)) & 255);
        }
        return count;
    }

    public boolean close() {
        if (!isStarted() || source.closed) {
            return false;
        }
        source.closed = true;
        return true;
    }

    public int produce(int n) {
        int made = 0;
        while (made < n && stepProducer()) {
            made++;
        }
        return made;
    }

    public int consume(int n) {
        int made = 0;
        while (made < n && stepConsumer()) {
            made++;
        }
        return made;
    }

    public boolean interrupt(boolean producer) {
        if ((producer ? producerState : consumerState) != RUNNING) {
            return false;
        }
        if (producer) {
            producerState = INTERRUPTED;
            held.empty();
        } else {
            consumerState = INTERRUPTED;
        }
        return true;
    }

    public int state() {
        return producerState + 4 * consumerState;
    }

    public int waiting(int where) {
        switch (where) {
            case 0: return source.waitingBytes.size();
            case 1: return held.size();
            case 2: return ring.size();
            case 3: return sink.samples.size();
            default: return -1;
        }
    }

    public int sinkByte(int i) {
        return sink.byteAt(i);
    }

    public long power(int f) {
        return f < 0 || f > 4 ? -1 : sink.tone(f);
    }

    private boolean isStarted() {
        return producerState != IDLE;
    }

    private boolean takesStage() {
        return !isStarted() && chain.length() < MOST_STAGES;
    }

    private void begin() {
        source.reopen();
        held.empty();
        ring.empty();
        sink.samples.empty();
        chain.forgetSamples();
        flushed = false;
        producerState = RUNNING;
        consumerState = RUNNING;
    }

    private boolean stepProducer() {
        if (producerState != RUNNING) {
            return false;
        }
        if (held.size() > 0) {
            return handOver();
        }
        if (source.hasSample()) {
            chain.work(source.nextSample(), held);
            return true;
        }
        if (!source.closed) {
            return false;
        }
        if (flushed) {
            producerState = ENDED;
        } else {
            source.waitingBytes.empty();
            chain.flush(held);
            flushed = true;
        }
        return true;
    }

    private boolean handOver() {
        if (consumerState == INTERRUPTED) {
            held.empty();
            producerState = ENDED;
            return true;
        }
        if (!ring.hasRoom()) {
            return false;
        }
        ring.add(held.takeOldest());
        return true;
    }

    private boolean stepConsumer() {
        if (consumerState != RUNNING) {
            return false;
        }
        if (ring.size() > 0) {
            sink.samples.add(ring.takeOldest());
            return true;
        }
        if (producerState == RUNNING) {
            return false;
        }
        consumerState = ENDED;
        return true;
    }

    private static boolean fitsSection(int number) {
        return number >= -32768 && number <= 32767;
    }

    private static boolean isStable(int a1, int a2) {
        if (a2 <= -ONE_IN_SECTION || a2 >= ONE_IN_SECTION) {
            return false;
        }
        int bound = ONE_IN_SECTION + a2;
        return a1 > -bound && a1 < bound;
    }

    private static boolean isFactor(int number) {
        return number >= 1 && number <= MOST_FACTOR;
    }

    private static int near(long dividend, long divisor) {
        return (int) Math.floorDiv(2 * dividend + divisor, 2 * divisor);
    }

    private static int clipped(long number) {
        return (int) Math.max(LOWEST_SAMPLE, Math.min(number, HIGHEST_SAMPLE));
    }

    /** Numbers in a line, in a room that is made once: they leave in the order in which they came. */
    private static final class Row {
        private final int[] cells;
        private int first;
        private int count;

        Row(int room) {
            cells = new int[room];
        }

        int size() {
            return count;
        }

        boolean hasRoom() {
            return count < cells.length;
        }

        void empty() {
            first = 0;
            count = 0;
        }

        void add(int number) {
            if (hasRoom()) {
                cells[(first + count) % cells.length] = number;
                count++;
            }
        }

        int takeOldest() {
            if (count == 0) {
                return 0;
            }
            int number = cells[first];
            first = (first + 1) % cells.length;
            count--;
            return number;
        }

        int get(int i) {
            return i < 0 || i >= count ? 0 : cells[(first + i) % cells.length];
        }
    }

    /** The samples that came last to a stage; the others count as 0, since no stage looks back further. */
    private static final class Recent {
        private static final int KEPT = 8;

        private final int[] cells = new int[KEPT];
        private int count;

        int count() {
            return count;
        }

        void forget() {
            count = 0;
        }

        void put(int x) {
            cells[count % KEPT] = x;
            count++;
        }

        int at(int i) {
            return i < 0 || i >= count || i < count - KEPT ? 0 : cells[i % KEPT];
        }
    }

    /** How many samples a stage can make is told apart from making them: so no stage has to know where they go. */
    private abstract static class Stage {
        /** Takes the next sample; answers how many can be made now. */
        abstract int take(int x);

        /** No more samples will come; answers how many can still be made. */
        abstract int finish();

        /** The next sample: called just as often as take and finish said. */
        abstract int make();

        abstract void clear();
    }

    private static final class Section extends Stage {
        private final int b0;
        private final int b1;
        private final int b2;
        private final int a1;
        private final int a2;
        private int x0;
        private int x1;
        private int x2;
        private int y1;
        private int y2;

        Section(int b0, int b1, int b2, int a1, int a2) {
            this.b0 = b0;
            this.b1 = b1;
            this.b2 = b2;
            this.a1 = a1;
            this.a2 = a2;
        }

        int take(int x) {
            x2 = x1;
            x1 = x0;
            x0 = x;
            return 1;
        }

        int finish() {
            return 0;
        }

        int make() {
            long sum = (long) b0 * x0 + (long) b1 * x1 + (long) b2 * x2 - (long) a1 * y1 - (long) a2 * y2;
            y2 = y1;
            y1 = clipped(Math.floorDiv(sum, (long) ONE_IN_SECTION));
            return y1;
        }

        void clear() {
            x0 = 0;
            x1 = 0;
            x2 = 0;
            y1 = 0;
            y2 = 0;
        }

        int responseAt(int k) {
            long square = (long) k * k;
            long above = squaredSize(b0, b1, b2, 256 - square, 256 + square);
            long below = squaredSize(ONE_IN_SECTION, a1, a2, 256 - square, 256 + square);
            return scaledRatio(above, below);
        }

        /**
         * whole * whole times the square of |p + q / z + r / (z z)|, z being at the angle with the cosine
         * part / whole: so it stays a whole number, and below 2^60 for all numbers that a section can have.
         */
        private static long squaredSize(long p, long q, long r, long part, long whole) {
            long ofDoubleAngle = 2 * part * part - whole * whole;
            return (p * p + q * q + r * r) * whole * whole + 2 * q * (p + r) * part * whole + 2 * p * r * ofDoubleAngle;
        }

        // 4096 * above may be too great for a long: so the last twelve bits are made one by one.
        private static int scaledRatio(long above, long below) {
            if (below <= 0 || above / below > HIGHEST_INT / 4096) {
                return HIGHEST_INT;
            }
            long ratio = above / below;
            long rest = above % below;
            for (int bit = 0; bit < 12; bit++) {
                ratio = 2 * ratio;
                rest = 2 * rest;
                if (rest >= below) {
                    ratio++;
                    rest -= below;
                }
            }
            return (int) ratio;
        }
    }

    private static final class Gain extends Stage {
        private final int factor;
        private int latest;

        Gain(int factor) {
            this.factor = factor;
        }

        int take(int x) {
            latest = x;
            return 1;
        }

        int finish() {
            return 0;
        }

        int make() {
            return clipped(Math.floorDiv((long) factor * latest, (long) ONE_IN_GAIN));
        }

        void clear() {
            latest = 0;
        }
    }

    private static final class Window extends Stage {
        private final int[] weights;
        private final int total;
        private final Recent recent = new Recent();
        private int next;

        Window(int kind, int length) {
            weights = new int[length];
            int sum = 0;
            for (int k = 0; k < length; k++) {
                weights[k] = weight(kind, k + 1, length - k);
                sum += weights[k];
            }
            total = sum;
        }

        private static int weight(int kind, int fromStart, int fromEnd) {
            switch (kind) {
                case 0: return 1;
                case 1: return Math.min(fromStart, fromEnd);
                default: return fromStart * fromEnd;
            }
        }

        int take(int x) {
            recent.put(x);
            return 1;
        }

        int finish() {
            return recent.count() == 0 ? 0 : weights.length - 1;
        }

        int make() {
            long sum = 0;
            for (int k = 0; k < weights.length; k++) {
                sum += (long) weights[k] * recent.at(next - k);
            }
            next++;
            return clipped(Math.floorDiv(sum, (long) total));
        }

        void clear() {
            recent.forget();
            next = 0;
        }
    }

    private static final class Resampler extends Stage {
        private final int up;
        private final int down;
        private final int reach;
        private final Recent recent = new Recent();
        // Where the next sample to be made stands among the spread ones: m * down.
        private int next;

        Resampler(int up, int down) {
            int divisor = commonDivisor(up, down);
            this.up = up / divisor;
            this.down = down / divisor;
            reach = Math.max(this.up, this.down);
        }

        private static int commonDivisor(int one, int other) {
            for (int divisor = MOST_FACTOR; divisor > 1; divisor--) {
                if (one % divisor == 0 && other % divisor == 0) {
                    return divisor;
                }
            }
            return 1;
        }

        int take(int x) {
            recent.put(x);
            return dueUpTo(recent.count() * up - 1);
        }

        int finish() {
            return recent.count() == 0 ? 0 : dueUpTo(recent.count() * up + 2 * reach - 3);
        }

        int make() {
            long sum = 0;
            for (int k = 0; k <= 2 * reach - 2; k++) {
                int place = next - k;
                int spread = place % up == 0 ? recent.at(place / up) : 0;
                sum += (long) (reach - Math.abs(k - (reach - 1))) * spread;
            }
            next += down;
            return clipped(Math.floorDiv(up * sum, (long) reach * reach));
        }

        void clear() {
            recent.forget();
            next = 0;
        }

        private int dueUpTo(int last) {
            return last < next ? 0 : (last - next) / down + 1;
        }
    }

    private static final class Chain {
        private final ArrayList<Stage> stages = new ArrayList<Stage>();
        private final Row passing = new Row(MOST_HELD);
        private int resamplers;

        int length() {
            return stages.size();
        }

        Stage stage(int at) {
            return at < 0 || at >= stages.size() ? null : stages.get(at);
        }

        boolean hasPlaceForResampler() {
            return resamplers < MOST_RESAMPLERS;
        }

        void append(Stage stage) {
            stages.add(stage);
        }

        void appendResampler(Resampler stage) {
            stages.add(stage);
            resamplers++;
        }

        void forgetSamples() {
            for (int at = 0; at < stages.size(); at++) {
                stages.get(at).clear();
            }
        }

        void work(int sample, Row out) {
            passing.add(sample);
            passThrough(0, out);
        }

        void flush(Row out) {
            for (int at = 0; at < stages.size(); at++) {
                Stage stage = stages.get(at);
                makeSamples(stage, stage.finish());
                passThrough(at + 1, out);
            }
        }

        // What a stage makes lines up behind what it has still to take: so one row serves all stages.
        private void passThrough(int from, Row out) {
            for (int at = from; at < stages.size(); at++) {
                Stage stage = stages.get(at);
                int coming = passing.size();
                for (int i = 0; i < coming; i++) {
                    makeSamples(stage, stage.take(passing.takeOldest()));
                }
            }
            int made = passing.size();
            for (int i = 0; i < made; i++) {
                out.add(passing.takeOldest());
            }
        }

        private void makeSamples(Stage stage, int due) {
            for (int i = 0; i < due; i++) {
                passing.add(stage.make());
            }
        }
    }

    private static final class Layout {
        private int width = 2;
        private boolean highFirst;

        void choose(int bits, boolean startsHigh) {
            width = bits / 8;
            highFirst = startsHigh;
        }

        int shiftOf(int place) {
            return 8 * (highFirst ? width - 1 - place : place);
        }
    }

    private static final class Source {
        private final Layout layout = new Layout();
        private final Row waitingBytes = new Row(MOST_BYTES);
        private int came;
        private boolean closed;

        void reopen() {
            waitingBytes.empty();
            came = 0;
            closed = false;
        }

        boolean takes(int more) {
            return !closed && came + more <= MOST_BYTES;
        }

        void addByte(int value) {
            waitingBytes.add(value);
            came++;
        }

        boolean hasSample() {
            return waitingBytes.size() >= layout.width;
        }

        int nextSample() {
            int bits = 0;
            for (int place = 0; place < layout.width; place++) {
                bits |= waitingBytes.takeOldest() << layout.shiftOf(place);
            }
            switch (layout.width) {
                case 1: return (bits - 128) * 65536;
                case 2: return (short) bits * 256;
                case 3: return (bits << 8) >> 8;
                default: return bits >> 8;
            }
        }
    }

    private static final class Sink {
        private final Layout layout = new Layout();
        private final Row samples = new Row(MOST_SUNK);

        int byteAt(int i) {
            int width = layout.width;
            if (i < 0 || i / width >= samples.size()) {
                return -1;
            }
            return (bitsOf(samples.get(i / width)) >> layout.shiftOf(i % width)) & 255;
        }

        private int bitsOf(int sample) {
            switch (layout.width) {
                case 1: return 128 + Math.min(127, Math.floorDiv(sample + 32768, 65536));
                case 2: return Math.min(32767, Math.floorDiv(sample + 128, 256));
                case 3: return sample;
                default: return 256 * sample;
            }
        }

        /**
         * For each f, w w = turn * w - 1 with the whole number turn = 2 - f (twice the cosine of w's angle): so
         * the sum is one + other * w with whole numbers, and the square of its absolute value is whole too.
         */
        long tone(int f) {
            int end = samples.size() - samples.size() % BLOCK;
            if (end == 0) {
                return -1;
            }
            long turn = 2 - f;
            long one = 0;
            long other = 0;
            for (int i = end - 1; i >= end - BLOCK; i--) {
                long turned = one + turn * other;
                one = samples.get(i) - other;
                other = turned;
            }
            return one * one + turn * one * other + other * other;
        }
    }
}
