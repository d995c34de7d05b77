/** What the tests do with a pipe again and again. */
final class Pipes {
    static final int MAX = 8388607;
    static final int MIN = -8388608;

    private Pipes() {
    }

    /** A pipe that takes and gives samples as they are: 24 bits on both sides. */
    static FilterPipe plain() {
        FilterPipe pipe = new FilterPipe(12);
        pipe.format(24, false, false);
        pipe.format(24, false, true);
        return pipe;
    }

    static void feed(FilterPipe pipe, int... samples) {
        for (int sample : samples) {
            pipe.bytes(3, sample);
        }
    }

    /** Moves producer and consumer on until neither makes a step. */
    static void drain(FilterPipe pipe) {
        int steps = 1;
        for (int i = 0; i < 10000 && steps > 0; i++) {
            steps = pipe.produce(1000) + pipe.consume(1000);
        }
    }

    /** The samples in a sink of 24 bits, low first. */
    static int[] sunk(FilterPipe pipe) {
        int[] samples = new int[pipe.waiting(3)];
        for (int i = 0; i < samples.length; i++) {
            int bits = pipe.sinkByte(3 * i) | pipe.sinkByte(3 * i + 1) << 8 | pipe.sinkByte(3 * i + 2) << 16;
            samples[i] = bits << 8 >> 8;
        }
        return samples;
    }

    /** Starts a plain pipe and answers what comes out for these samples before the source is closed. */
    static int[] live(FilterPipe pipe, int... samples) {
        pipe.start();
        feed(pipe, samples);
        drain(pipe);
        return sunk(pipe);
    }

    /** Starts a plain pipe and answers all that comes out for these samples, the flush too. */
    static int[] whole(FilterPipe pipe, int... samples) {
        pipe.start();
        feed(pipe, samples);
        pipe.close();
        drain(pipe);
        return sunk(pipe);
    }

    /** A started pipe of 8 bits into 24 bits without stages. */
    static FilterPipe ofBytes(int room) {
        FilterPipe pipe = new FilterPipe(room);
        pipe.format(8, false, false);
        pipe.format(24, false, true);
        pipe.start();
        return pipe;
    }

    static void fillStages(FilterPipe pipe, int count) {
        for (int i = 0; i < count; i++) {
            pipe.gain(256);
        }
    }
}
