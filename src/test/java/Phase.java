import java.util.ArrayList;
import java.util.List;

/** A point in a pipe's life: the calls that lead to it, and what the document says of it. */
final class Phase {
    static final int IDLE = 0;
    static final int RUNNING = 1;
    static final int ENDED = 2;
    static final int INTERRUPTED = 3;

    final String name;
    final int room;
    /** The calls up to start(), if it is started: chain and formats. */
    final Twins.Calls building;
    private final Twins.Calls running;
    int stages;
    int resamplers;
    int came;
    boolean closed;
    int producer = IDLE;
    int consumer = IDLE;
    boolean producerWaits;
    boolean consumerWaits;
    int[] waiting = {0, 0, 0, 0};

    private Phase(String name, int room, Twins.Calls building, Twins.Calls running) {
        this.name = name;
        this.room = room;
        this.building = building;
        this.running = running;
    }

    /** Leads a new pipe to this point. */
    void on(FilterPipe pipe) {
        building.on(pipe);
        running.on(pipe);
    }

    FilterPipe reached() {
        FilterPipe pipe = new FilterPipe(room);
        on(pipe);
        return pipe;
    }

    private Phase chain(int ofStages, int ofResamplers) {
        stages = ofStages;
        resamplers = ofResamplers;
        return this;
    }

    private Phase source(int bytes, boolean isClosed) {
        came = bytes;
        closed = isClosed;
        return this;
    }

    private Phase states(int ofProducer, int ofConsumer) {
        producer = ofProducer;
        consumer = ofConsumer;
        return this;
    }

    private Phase noStep(boolean ofProducer, boolean ofConsumer) {
        producerWaits = ofProducer;
        consumerWaits = ofConsumer;
        return this;
    }

    private Phase waiting(int... inSourceHeldRingSink) {
        waiting = inSourceHeldRingSink;
        return this;
    }

    boolean isStarted() {
        return producer != IDLE;
    }

    static List<Phase> all() {
        List<Phase> all = new ArrayList<>();
        addIdle(all);
        addRunning(all);
        addEnded(all);
        addInterrupted(all);
        return all;
    }

    private static void addIdle(List<Phase> all) {
        all.add(new Phase("new", 3, Phase::none, Phase::none));
        all.add(new Phase("two stages and formats", 2, Phase::someStages, Phase::none).chain(2, 0));
        all.add(new Phase("two resamplers", 12, Phase::twoResamplers, Phase::none).chain(3, 2));
        all.add(new Phase("five stages", 4, Phase::fiveStages, Phase::none).chain(5, 1));
        all.add(new Phase("five stages, two resamplers", 4, Phase::fiveWithTwo, Phase::none).chain(5, 2));
    }

    private static void addRunning(List<Phase> all) {
        all.add(new Phase("just started", 1, Phase::none, FilterPipe::start).states(RUNNING, RUNNING).noStep(true, true));
        all.add(new Phase("five stages, started", 2, Phase::fiveStages, FilterPipe::start).chain(5, 1)
                .states(RUNNING, RUNNING).noStep(true, true));
        all.add(new Phase("midway", 3, Phase::threeStages, Phase::midway).chain(3, 1).source(11, false)
                .states(RUNNING, RUNNING).waiting(7, 1, 3, 2));
        all.add(new Phase("ring full", 2, Phase::none, Phase::fillRing).source(8, false)
                .states(RUNNING, RUNNING).noStep(true, false).waiting(2, 1, 2, 0));
        all.add(new Phase("ring full and closed", 1, Phase::none, Phase::fillRingAndClose).source(8, true)
                .states(RUNNING, RUNNING).noStep(true, false).waiting(4, 1, 1, 0));
        all.add(new Phase("flush held", 12, Phase::longWindow, Phase::holdFlush).chain(1, 0).source(5, true)
                .states(RUNNING, RUNNING).noStep(false, true).waiting(0, 4, 0, 2));
        all.add(new Phase("flushed, not ended", 12, Phase::none, Phase::flush).source(1, true)
                .states(RUNNING, RUNNING).noStep(false, true));
        for (int bytes = 117; bytes <= 120; bytes++) {
            int some = bytes;
            all.add(new Phase(bytes + " bytes came", 12, Phase::none, pipe -> fillSource(pipe, some)).source(bytes, false)
                    .states(RUNNING, RUNNING).waiting(bytes, 0, 0, 0));
        }
        all.add(new Phase("restarted", 3, Phase::threeStages, Phase::restart).chain(3, 1)
                .states(RUNNING, RUNNING).noStep(true, true));
    }

    private static void addEnded(List<Phase> all) {
        all.add(new Phase("producer ended", 5, Phase::shortWindow, Phase::endProducer).chain(1, 0).source(6, true)
                .states(ENDED, RUNNING).waiting(0, 0, 4, 0));
        all.add(new Phase("both ended", 5, Phase::shortWindow, Phase::endBoth).chain(1, 0).source(6, true)
                .states(ENDED, ENDED).waiting(0, 0, 0, 4));
    }

    private static void addInterrupted(List<Phase> all) {
        all.add(new Phase("producer interrupted", 3, Phase::threeStages, Phase::interruptProducer).chain(3, 1)
                .source(11, false).states(INTERRUPTED, RUNNING).waiting(7, 0, 3, 2));
        all.add(new Phase("producer interrupted, consumer ended", 3, Phase::threeStages, Phase::consumeAfterInterrupt)
                .chain(3, 1).source(11, false).states(INTERRUPTED, ENDED).waiting(7, 0, 0, 5));
        all.add(new Phase("consumer interrupted", 3, Phase::threeStages, Phase::interruptConsumer).chain(3, 1)
                .source(11, false).states(RUNNING, INTERRUPTED).waiting(7, 1, 3, 2));
        all.add(new Phase("ended by the consumer's interrupt", 3, Phase::threeStages, Phase::produceAfterInterrupt)
                .chain(3, 1).source(11, false).states(ENDED, INTERRUPTED).waiting(7, 0, 3, 2));
        all.add(new Phase("both interrupted", 3, Phase::threeStages, Phase::interruptBoth).chain(3, 1)
                .source(11, false).states(INTERRUPTED, INTERRUPTED).waiting(7, 0, 3, 2));
    }

    private static void none(FilterPipe pipe) {
    }

    private static void someStages(FilterPipe pipe) {
        pipe.format(8, false, false);
        pipe.format(24, true, true);
        pipe.section(16384, -8192, 4096, -12000, 5000);
        pipe.window(2, 4);
    }

    private static void twoResamplers(FilterPipe pipe) {
        pipe.resample(3, 2);
        pipe.gain(-256);
        pipe.resample(1, 1);
    }

    private static void fiveStages(FilterPipe pipe) {
        pipe.halfPower(20, false);
        pipe.window(0, 3);
        pipe.resample(2, 3);
        pipe.gain(700);
        pipe.halfPower(9, true);
    }

    private static void fiveWithTwo(FilterPipe pipe) {
        pipe.resample(2, 3);
        pipe.window(0, 3);
        pipe.gain(700);
        pipe.halfPower(9, true);
        pipe.resample(2, 1);
    }

    private static void threeStages(FilterPipe pipe) {
        pipe.section(16384, -8192, 4096, -12000, 5000);
        pipe.resample(3, 1);
        pipe.window(1, 3);
    }

    private static void longWindow(FilterPipe pipe) {
        pipe.window(0, 5);
    }

    private static void shortWindow(FilterPipe pipe) {
        pipe.window(0, 2);
    }

    /** Bytes of half a sample wait too, some samples are held, in the ring and in the sink. */
    private static void midway(FilterPipe pipe) {
        pipe.start();
        pipe.bytes(4, 0x40203010);
        pipe.bytes(4, 0x7fff8000);
        pipe.bytes(3, 0x00123456);
        pipe.produce(4);
        pipe.consume(2);
        pipe.produce(3);
    }

    private static void fillRing(FilterPipe pipe) {
        pipe.start();
        pipe.bytes(4, 0x40203010);
        pipe.bytes(4, 0x7fff8000);
        pipe.produce(100);
    }

    private static void fillRingAndClose(FilterPipe pipe) {
        fillRing(pipe);
        pipe.close();
    }

    private static void holdFlush(FilterPipe pipe) {
        pipe.start();
        pipe.bytes(4, 0x40203010);
        pipe.bytes(1, 0x77);
        pipe.close();
        pipe.produce(4);
        pipe.consume(2);
        pipe.produce(1);
    }

    private static void flush(FilterPipe pipe) {
        pipe.start();
        pipe.bytes(1, 0x77);
        pipe.close();
        pipe.produce(1);
    }

    private static void endProducer(FilterPipe pipe) {
        pipe.start();
        pipe.bytes(4, 0x40203010);
        pipe.bytes(2, 0x7777);
        pipe.close();
        pipe.produce(100);
    }

    private static void endBoth(FilterPipe pipe) {
        endProducer(pipe);
        pipe.consume(100);
    }

    private static void interruptProducer(FilterPipe pipe) {
        midway(pipe);
        pipe.interrupt(true);
    }

    private static void consumeAfterInterrupt(FilterPipe pipe) {
        interruptProducer(pipe);
        pipe.consume(100);
    }

    private static void interruptConsumer(FilterPipe pipe) {
        midway(pipe);
        pipe.interrupt(false);
    }

    private static void produceAfterInterrupt(FilterPipe pipe) {
        interruptConsumer(pipe);
        pipe.produce(100);
    }

    private static void interruptBoth(FilterPipe pipe) {
        interruptProducer(pipe);
        pipe.interrupt(false);
    }

    private static void fillSource(FilterPipe pipe, int bytes) {
        pipe.start();
        for (int i = 0; i < bytes / 4; i++) {
            pipe.bytes(4, 0x10203040 * i + 77);
        }
        pipe.bytes(bytes % 4, 0x55667788);
    }

    private static void restart(FilterPipe pipe) {
        midway(pipe);
        pipe.close();
        pipe.produce(2);
        pipe.restart();
    }
}
