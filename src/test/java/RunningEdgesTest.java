/**
 * The edges that promises 9 to 19 name: the last number that is taken and the first that is refused, on both sides, and
 * that a refused call changes nothing. The answers due are worked out by hand.
 */
public final class RunningEdgesTest {
    private static final int LEAST = Integer.MIN_VALUE;
    private static final int MOST = Integer.MAX_VALUE;
    private static final int[] NO_STEPS = {LEAST, -2, -1, 0};

    private RunningEdgesTest() {
    }

    public static void main(String[] args) {
        startEmpty();
        startTwice();
        restartEmpty();
        restartFromEachPhase();
        restartNotStarted();
        bytesLowestFirst();
        bytesCount();
        bytesNotRunning();
        bytesClosed();
        bytesTooMany();
        bytesNotStarted();
        closeTwice();
        closeNotStarted();
        closeNotRunning();
        produceNone();
        produceAsManyAsCanBe();
        produceNotRunning();
        produceEndIsAStep();
        consumeNone();
        consumeAsManyAsCanBe();
        consumeEndIsAStep();
        interruptProducer();
        interruptConsumer();
        interruptNotRunning();
        states();
        waitingNumbers();
        waitingEdges();
        sinkByteNone();
        sinkByteEdges();
        sinkByteFormats();
        powerNoBlock();
        powerBlocks();
        powerAngles();
        powerOtherNumbers();
        powerGreatest();
        Check.end();
    }

    private static void nothing(FilterPipe pipe) {
    }

    private static void waits(FilterPipe pipe, int source, int held, int ring, int sink) {
        Check.due("bytes in the source", pipe.waiting(0), source);
        Check.due("held", pipe.waiting(1), held);
        Check.due("in the ring", pipe.waiting(2), ring);
        Check.due("in the sink", pipe.waiting(3), sink);
    }

    private static void startEmpty() {
        Check.about("Promise 9: source, ring and sink empty, producer and consumer RUNNING");
        FilterPipe pipe = new FilterPipe(2);
        Check.due("start() without a stage", pipe.start(), true);
        Check.due("state()", pipe.state(), 5);
        waits(pipe, 0, 0, 0, 0);
        Check.due("sinkByte(0)", pipe.sinkByte(0), -1);
        Check.due("power(0)", pipe.power(0), -1);
        Check.due("the source is open", pipe.bytes(1, 0), 1);
        FilterPipe five = new FilterPipe(2);
        Pipes.fillStages(five, 5);
        Check.due("start() with five stages", five.start(), true);
    }

    private static void startTwice() {
        Check.about("Promise 9: false if it was started before");
        for (Phase phase : Phase.all()) {
            if (phase.isStarted()) {
                Twins.refused(phase.name, phase.room, phase::on, pipe -> Twins.of(pipe.start()));
            } else {
                FilterPipe pipe = phase.reached();
                Check.due(phase.name + ": start()", pipe.start(), true);
                Check.due(phase.name + ": start() again", pipe.start(), false);
            }
        }
    }

    private static void restartEmpty() {
        Check.about("Promise 10: nothing in source, ring, sink and chain; the source open; both RUNNING");
        for (Phase phase : Phase.all()) {
            if (phase.isStarted()) {
                FilterPipe pipe = phase.reached();
                Check.due(phase.name + ": restart()", pipe.restart(), true);
                Check.due(phase.name + ": state()", pipe.state(), 5);
                waits(pipe, 0, 0, 0, 0);
                Check.due(phase.name + ": sinkByte(0)", pipe.sinkByte(0), -1);
                Check.due(phase.name + ": power(0)", pipe.power(0), -1);
                Check.due(phase.name + ": bytes", pipe.bytes(1, 0), 1);
                Check.due(phase.name + ": close()", pipe.close(), true);
                Check.due(phase.name + ": flush and end, no sample came", pipe.produce(MOST), 2);
                waits(pipe, 0, 0, 0, 0);
            }
        }
    }

    private static void restartFromEachPhase() {
        Check.about("Promise 10: All becomes as it was right after start(); chain and formats stay");
        for (Phase phase : Phase.all()) {
            if (phase.isStarted()) {
                Twins.alike(phase.name, phase.room, pipe -> {
                    phase.on(pipe);
                    Check.due(phase.name + ": restart()", pipe.restart(), true);
                }, pipe -> {
                    phase.building.on(pipe);
                    pipe.start();
                });
            }
        }
        FilterPipe pipe = Pipes.plain();
        pipe.section(16384, 16384, 16384, -8192, 8000);
        pipe.window(1, 3);
        pipe.resample(3, 2);
        int[] first = Pipes.whole(pipe, 70000, -50000, 30000, 1);
        for (int cut = 0; cut <= 8; cut++) {
            pipe.restart();
            Pipes.feed(pipe, 8000000, -7000000, 6000000);
            pipe.produce(cut);
            pipe.restart();
            Pipes.feed(pipe, 70000, -50000, 30000, 1);
            pipe.close();
            Pipes.drain(pipe);
            Check.due("restarted after " + cut + " steps", Pipes.sunk(pipe), first);
        }
    }

    private static void restartNotStarted() {
        Check.about("Promise 10: false if it was not started");
        for (Phase phase : Phase.all()) {
            if (!phase.isStarted()) {
                Twins.refused(phase.name, phase.room, phase::on, pipe -> Twins.of(pipe.restart()));
            }
        }
    }

    private static void bytesLowestFirst() {
        Check.about("Promise 11: The lowest count bytes of word, the lowest one first, go to the end of the source");
        FilterPipe pipe = new FilterPipe(12);
        pipe.format(8, false, false);
        pipe.format(8, false, true);
        pipe.start();
        Check.due("one", pipe.bytes(1, 0xdeadbe01), 1);
        Check.due("two", pipe.bytes(2, 0xdead0302), 2);
        Check.due("three", pipe.bytes(3, 0xde060504), 3);
        Check.due("four", pipe.bytes(4, 0x0a090807), 4);
        Check.due("four, all bits set", pipe.bytes(4, -1), 4);
        Check.due("four, the least word", pipe.bytes(4, LEAST), 4);
        Check.due("all wait", pipe.waiting(0), 18);
        Pipes.drain(pipe);
        int[] due = {1, 2, 3, 4, 5, 6, 7, 8, 9, 10, 255, 255, 255, 255, 0, 0, 0, 128};
        for (int i = 0; i < due.length; i++) {
            Check.due("byte " + i, pipe.sinkByte(i), due[i]);
        }
    }

    private static void bytesCount() {
        Check.about("Promise 11: 0 (and none goes) if count isn't 1 .. 4");
        for (int count = 1; count <= 4; count++) {
            FilterPipe pipe = new FilterPipe(1);
            pipe.start();
            Check.due("count " + count, pipe.bytes(count, -1), count);
            Check.due("count " + count + ": wait", pipe.waiting(0), count);
        }
        for (int count : new int[] {LEAST, -4, -1, 0, 5, 6, 257, LEAST + 1, MOST}) {
            Twins.refused("count " + count, 2, FilterPipe::start, pipe -> pipe.bytes(count, -1));
        }
    }

    private static void bytesNotRunning() {
        Check.about("Promise 11: also when the producer is not RUNNING any more");
        for (Phase phase : Phase.all()) {
            if (phase.producer > Phase.RUNNING && !phase.closed) {
                FilterPipe pipe = phase.reached();
                int before = pipe.waiting(0);
                Check.due(phase.name + ": bytes(4, 0)", pipe.bytes(4, 0), 4);
                Check.due(phase.name + ": they wait", pipe.waiting(0), before + 4);
                for (int i = 0; i < 26; i++) {
                    Check.due(phase.name + ": more", pipe.bytes(4, 0), 4);
                }
                Check.due(phase.name + ": 11 and 108 came, 121 by two", pipe.bytes(2, 0), 0);
                Check.due(phase.name + ": 120", pipe.bytes(1, 0), 1);
                Check.due(phase.name + ": 121", pipe.bytes(1, 0), 0);
                Check.due(phase.name + ": no step", pipe.produce(MOST), 0);
            }
        }
    }

    private static void bytesClosed() {
        Check.about("Promise 11: 0 if the source is closed");
        for (Phase phase : Phase.all()) {
            for (int count = 1; count <= 4 && phase.isStarted(); count++) {
                int some = count;
                Twins.refused(phase.name + ": bytes(" + count + ", 0)", phase.room, pipe -> {
                    phase.on(pipe);
                    pipe.close();
                }, pipe -> pipe.bytes(some, 0));
            }
        }
    }

    private static void bytesTooMany() {
        Check.about("Promise 11: 0 if more than 120 bytes would have come");
        for (int left = 0; left <= 3; left++) {
            int came = 120 - left;
            for (int count = left + 1; count <= 4; count++) {
                int some = count;
                Twins.refused(came + " and " + count, 12, pipe -> come(pipe, came), pipe -> pipe.bytes(some, -1));
            }
            FilterPipe pipe = new FilterPipe(1);
            come(pipe, came);
            Check.due(came + " came", pipe.waiting(0), came);
            for (int i = 0; i < left; i++) {
                Check.due(came + " and " + (i + 1), pipe.bytes(1, 0), 1);
            }
            Check.due("121", pipe.bytes(1, 0), 0);
        }
    }

    private static void come(FilterPipe pipe, int count) {
        pipe.start();
        for (int i = 0; i < count; i++) {
            pipe.bytes(1, 3 * i);
        }
    }

    private static void bytesNotStarted() {
        Check.about("Promise 11: 0 if it was not started");
        for (int count = 0; count <= 5; count++) {
            int some = count;
            Twins.refused("bytes(" + count + ", -1)", 2, RunningEdgesTest::nothing, pipe -> pipe.bytes(some, -1));
        }
    }

    private static void closeTwice() {
        Check.about("Promise 12: false if it is closed");
        for (Phase phase : Phase.all()) {
            if (phase.isStarted()) {
                FilterPipe pipe = phase.reached();
                Check.due(phase.name + ": close()", pipe.close(), !phase.closed);
                Twins.refused(phase.name + ": close() again", phase.room, p -> {
                    phase.on(p);
                    p.close();
                }, p -> Twins.of(p.close()));
            }
        }
    }

    private static void closeNotStarted() {
        Check.about("Promise 12: false if it was not started");
        Twins.refused("close()", 2, RunningEdgesTest::nothing, pipe -> Twins.of(pipe.close()));
        FilterPipe pipe = new FilterPipe(2);
        pipe.close();
        pipe.start();
        Check.due("the source is open", pipe.bytes(1, 0), 1);
        Check.due("close()", pipe.close(), true);
    }

    private static void closeNotRunning() {
        Check.about("Promise 12: closes the source, whatever the producer does");
        FilterPipe pipe = Pipes.ofBytes(2);
        pipe.bytes(3, 0);
        pipe.interrupt(true);
        Check.due("INTERRUPTED producer", pipe.close(), true);
        Check.due("the bytes stay", pipe.waiting(0), 3);
        Check.due("no more come", pipe.bytes(1, 0), 0);
        Check.due("state()", pipe.state(), 7);
        pipe.restart();
        Check.due("open again", pipe.bytes(1, 0), 1);
        Check.due("closed again", pipe.close(), true);
    }

    private static void produceNone() {
        Check.about("Promise 13: 0 if n is less than 1");
        for (Phase phase : Phase.all()) {
            for (int n : NO_STEPS) {
                Twins.refused(phase.name + ": produce(" + n + ")", phase.room, phase::on, pipe -> pipe.produce(n));
            }
        }
    }

    private static void produceAsManyAsCanBe() {
        Check.about("Promise 13: The producer makes n steps, or as many as can be made");
        // Of three samples in a ring for 12: three takes, three times handed over, the flush and the end.
        for (int n = 1; n <= 10; n++) {
            FilterPipe pipe = Pipes.ofBytes(12);
            pipe.bytes(3, 0);
            pipe.close();
            Check.due("produce(" + n + ")", pipe.produce(n), Math.min(n, 8));
            Check.due("produce(" + n + "): state()", pipe.state(), n < 8 ? 5 : 6);
            Check.due("the rest", pipe.produce(MOST), Math.max(0, 8 - n));
        }
        for (int room = 1; room <= 12; room++) {
            FilterPipe pipe = Pipes.ofBytes(room);
            for (int i = 0; i < 5; i++) {
                pipe.bytes(4, 0);
            }
            Check.due("room " + room + ": till it is full, and one more held", pipe.produce(MOST), 2 * room + 1);
        }
    }

    private static void produceNotRunning() {
        Check.about("Promise 13: 0 if it is not RUNNING");
        for (Phase phase : Phase.all()) {
            if (phase.producer != Phase.RUNNING) {
                for (int n : new int[] {1, 2, MOST}) {
                    Twins.refused(phase.name + ": produce(" + n + ")", phase.room, phase::on, pipe -> pipe.produce(n));
                }
            }
        }
    }

    private static void produceEndIsAStep() {
        Check.about("Promise 13: the step by which it is ENDED is one");
        FilterPipe pipe = Pipes.ofBytes(1);
        pipe.close();
        pipe.produce(1);
        Check.due("by the end of the source", pipe.produce(MOST), 1);
        Check.due("state()", pipe.state(), 6);
        FilterPipe stopped = Pipes.ofBytes(1);
        stopped.bytes(1, 0);
        stopped.produce(1);
        stopped.interrupt(false);
        Check.due("by the consumer's interrupt", stopped.produce(MOST), 1);
        Check.due("state()", stopped.state(), 14);
    }

    private static void consumeNone() {
        Check.about("Promise 14: 0 if n is less than 1");
        for (Phase phase : Phase.all()) {
            for (int n : NO_STEPS) {
                Twins.refused(phase.name + ": consume(" + n + ")", phase.room, phase::on, pipe -> pipe.consume(n));
            }
        }
    }

    private static void consumeAsManyAsCanBe() {
        Check.about("Promise 14: The consumer makes n steps, or as many as can be made");
        for (int n = 1; n <= 6; n++) {
            FilterPipe pipe = Pipes.ofBytes(12);
            pipe.bytes(4, 0);
            pipe.produce(100);
            Check.due("consume(" + n + ")", pipe.consume(n), Math.min(n, 4));
            waits(pipe, 0, 0, Math.max(0, 4 - n), Math.min(n, 4));
            Check.due("the rest", pipe.consume(MOST), Math.max(0, 4 - n));
            Check.due("none", pipe.consume(MOST), 0);
        }
        for (Phase phase : Phase.all()) {
            if (phase.consumer != Phase.RUNNING) {
                Twins.refused(phase.name + ": consume(1)", phase.room, phase::on, pipe -> pipe.consume(1));
            }
        }
    }

    private static void consumeEndIsAStep() {
        Check.about("Promise 14: the step by which the consumer is ENDED is one");
        for (int n = 1; n <= 4; n++) {
            FilterPipe pipe = Pipes.ofBytes(12);
            pipe.bytes(2, 0);
            pipe.close();
            pipe.produce(100);
            Check.due("consume(" + n + ")", pipe.consume(n), Math.min(n, 3));
            Check.due("state()", pipe.state(), n < 3 ? 6 : 10);
        }
    }

    private static void interruptProducer() {
        Check.about("Promise 15: if it is the producer, what it holds is dropped (the ring and the source stay as they are)");
        FilterPipe pipe = Pipes.plain();
        pipe.resample(4, 1);
        pipe.start();
        Pipes.feed(pipe, 400, 800);
        pipe.bytes(1, 0);
        pipe.produce(3);
        waits(pipe, 4, 2, 2, 0);
        Check.due("interrupt(true)", pipe.interrupt(true), true);
        waits(pipe, 4, 0, 2, 0);
        Check.due("state()", pipe.state(), 7);
        Check.due("the consumer goes on by itself", pipe.consume(MOST), 3);
        Check.due("what was in the ring", Pipes.sunk(pipe), 100, 200);
        waits(pipe, 4, 0, 0, 2);
        FilterPipe none = Pipes.ofBytes(1);
        Check.due("holding nothing", none.interrupt(true), true);
        Check.due("state()", none.state(), 7);
    }

    private static void interruptConsumer() {
        Check.about("Promise 15: the consumer is INTERRUPTED: nothing is dropped, the producer goes on by itself");
        FilterPipe pipe = Pipes.ofBytes(3);
        pipe.bytes(4, 0);
        pipe.produce(3);
        Check.due("interrupt(false)", pipe.interrupt(false), true);
        waits(pipe, 2, 1, 1, 0);
        Check.due("state()", pipe.state(), 13);
        Check.due("bytes still come", pipe.bytes(1, 0), 1);
        Check.due("the producer ends by itself", pipe.produce(MOST), 1);
        waits(pipe, 3, 0, 1, 0);
        Check.due("state()", pipe.state(), 14);
    }

    private static void interruptNotRunning() {
        Check.about("Promise 15: false if that one isn't RUNNING");
        for (Phase phase : Phase.all()) {
            for (boolean producer : new boolean[] {true, false}) {
                String what = phase.name + ": interrupt(" + producer + ")";
                if ((producer ? phase.producer : phase.consumer) == Phase.RUNNING) {
                    FilterPipe pipe = phase.reached();
                    Check.due(what, pipe.interrupt(producer), true);
                    int due = producer ? 3 + 4 * phase.consumer : phase.producer + 12;
                    Check.due(what + ": state()", pipe.state(), due);
                    Check.due(what + " again", pipe.interrupt(producer), false);
                    Check.due(what + " again: state()", pipe.state(), due);
                } else {
                    Twins.refused(what, phase.room, phase::on, pipe -> Twins.of(pipe.interrupt(producer)));
                }
            }
        }
    }

    private static void states() {
        Check.about("Promise 16: The producer's state + 4 * the consumer's");
        boolean[] seen = new boolean[16];
        for (Phase phase : Phase.all()) {
            FilterPipe pipe = phase.reached();
            int due = phase.producer + 4 * phase.consumer;
            Check.due(phase.name, pipe.state(), due);
            seen[due] = true;
        }
        // The consumer can't be ENDED before the producer stops, and none is IDLE alone: these are all there are.
        for (int state : new int[] {0, 5, 6, 7, 10, 11, 13, 14, 15}) {
            Check.due("a phase of state " + state, seen[state], true);
        }
    }

    private static void waitingNumbers() {
        Check.about("Promise 17: -1 for other numbers");
        for (Phase phase : Phase.all()) {
            FilterPipe pipe = phase.reached();
            for (int where : new int[] {LEAST, -4, -1, 4, 5, 256, MOST}) {
                Check.due(phase.name + ": waiting(" + where + ")", pipe.waiting(where), -1);
            }
            for (int where = 0; where <= 3; where++) {
                Check.due(phase.name + ": waiting(" + where + ")", pipe.waiting(where), phase.waiting[where]);
            }
        }
    }

    private static void waitingEdges() {
        Check.about("Promise 17: came, and were neither taken nor dropped; how many the producer holds, are in the ring, went into the sink");
        FilterPipe pipe = new FilterPipe(12);
        pipe.format(8, false, false);
        for (int i = 0; i < 3; i++) {
            pipe.window(0, 8);
        }
        pipe.resample(4, 1);
        pipe.resample(4, 1);
        pipe.start();
        for (int i = 0; i < 30; i++) {
            pipe.bytes(4, 0);
        }
        waits(pipe, 120, 0, 0, 0);
        pipe.produce(1);
        waits(pipe, 119, 16, 0, 0);
        pipe.produce(MOST);
        waits(pipe, 119, 4, 12, 0);
        for (int i = 0; i < 160; i++) {
            pipe.consume(MOST);
            pipe.produce(MOST);
        }
        waits(pipe, 0, 0, 0, 1920);
        pipe.close();
        pipe.produce(1);
        waits(pipe, 0, 366, 0, 1920);
        for (int i = 0; i < 31; i++) {
            pipe.produce(MOST);
            pipe.consume(MOST);
        }
        waits(pipe, 0, 0, 0, 2286);
    }

    private static void sinkByteNone() {
        Check.about("Promise 18: -1 if there is none: the sink is empty");
        for (Phase phase : Phase.all()) {
            if (phase.waiting[3] == 0) {
                FilterPipe pipe = phase.reached();
                for (int i : new int[] {LEAST, -1, 0, 1, MOST}) {
                    Check.due(phase.name + ": sinkByte(" + i + ")", pipe.sinkByte(i), -1);
                }
            }
        }
    }

    private static void sinkByteEdges() {
        Check.about("Promise 18: Byte i (from 0); -1 if there is none");
        for (int bits = 8; bits <= 32; bits += 8) {
            FilterPipe pipe = new FilterPipe(12);
            pipe.format(8, false, false);
            pipe.format(bits, true, true);
            pipe.start();
            pipe.bytes(4, 0x7f7f7f7f);
            pipe.produce(100);
            for (int samples = 0; samples <= 4; samples++) {
                int bytes = samples * bits / 8;
                for (int i : new int[] {LEAST, -bits, -2, -1, bytes, bytes + 1, 4 * 12 + bytes, MOST / 2, MOST - 1, MOST}) {
                    Check.due(bits + " bits, " + samples + " samples: sinkByte(" + i + ")", pipe.sinkByte(i), -1);
                }
                for (int i = 0; i < bytes; i++) {
                    boolean first = i % (bits / 8) == 0;
                    int due = bits == 8 ? 127 : first ? 255 : 0;
                    Check.due(bits + " bits, " + samples + " samples: sinkByte(" + i + ")", pipe.sinkByte(i), due);
                }
                pipe.consume(1);
            }
        }
    }

    private static void sinkByteFormats() {
        Check.about("Promise 18: in its format: 0 .. 255");
        for (int bits = 8; bits <= 32; bits += 8) {
            FilterPipe pipe = new FilterPipe(12);
            pipe.format(8, false, false);
            pipe.format(bits, true, true);
            pipe.start();
            for (int i = 0; i < 30; i++) {
                pipe.bytes(4, 0x03020100 + i * 0x04040404 + 0x44444444);
            }
            Pipes.drain(pipe);
            for (int i = 0; i < 120; i++) {
                int due = bits == 8 ? i + 68 : i + 68 - 128 & 255;
                Check.due(bits + " bits: sample " + i, pipe.sinkByte(i * bits / 8), due);
            }
        }
    }

    private static void feedAndDrain(FilterPipe pipe, int... samples) {
        Pipes.feed(pipe, samples);
        Pipes.drain(pipe);
    }

    private static void powerNoBlock() {
        Check.about("Promise 19: -1 if there is no whole block");
        FilterPipe pipe = Pipes.plain();
        Check.due("before start", pipe.power(0), -1);
        pipe.start();
        for (int samples = 0; samples < 12; samples++) {
            for (int f = 0; f <= 4; f++) {
                Check.due(samples + " samples: power(" + f + ")", pipe.power(f), -1);
            }
            Pipes.feed(pipe, 5);
            pipe.produce(2);
            Check.due("the ring does not count", pipe.power(0), -1);
            pipe.consume(1);
        }
        Check.due("12 samples", pipe.power(0), 3600);
        pipe.restart();
        Check.due("after restart", pipe.power(0), -1);
        Pipes.feed(pipe, 1, 2, 3);
        Pipes.drain(pipe);
        Check.due("what was before the restart does not count", pipe.power(0), -1);
    }

    private static void powerBlocks() {
        Check.about("Promise 19: Of the latest whole block of 12 samples (samples 0 .. 11, 12 .. 23, .. of the sink)");
        FilterPipe pipe = Pipes.plain();
        pipe.start();
        for (int i = 0; i < 37; i++) {
            int block = i / 12;
            long sum = 12L * (1 << 2 * block - 2);
            Check.due(i + " samples", pipe.power(0), block == 0 ? -1 : sum * sum);
            feedAndDrain(pipe, 1 << 2 * block);
        }
    }

    private static void powerAngles() {
        Check.about("Promise 19: at the angle of 0, 1/6, 1/4, 1/3, 1/2 turns for f = 0, 1, 2, 3, 4");
        // Two samples x[0] = 1 and x[j] = 1: the square is 2 + 2 cos(j angle).
        int[][] due = {
            {4, 4, 4, 4, 4}, {4, 3, 2, 1, 0}, {4, 1, 0, 1, 4}, {4, 0, 2, 4, 0}, {4, 1, 4, 1, 4}, {4, 3, 2, 1, 0},
            {4, 4, 0, 4, 4}, {4, 3, 2, 1, 0}, {4, 1, 4, 1, 4}, {4, 0, 2, 4, 0}, {4, 1, 0, 1, 4}, {4, 3, 2, 1, 0}};
        for (int j = 1; j < 12; j++) {
            FilterPipe pipe = Pipes.plain();
            pipe.start();
            int[] block = new int[12];
            block[0] = 1;
            block[j] = 1;
            feedAndDrain(pipe, block);
            for (int f = 0; f <= 4; f++) {
                Check.due("samples 0 and " + j + ": power(" + f + ")", pipe.power(f), due[j][f]);
            }
        }
    }

    private static void powerOtherNumbers() {
        Check.about("Promise 19: -1 if f isn't 0 .. 4");
        FilterPipe pipe = Pipes.plain();
        pipe.start();
        feedAndDrain(pipe, 7, 0, 0, 0, 0, 0, 0, 0, 0, 0, 0, 0);
        for (int f = 0; f <= 4; f++) {
            Check.due("power(" + f + ")", pipe.power(f), 49);
        }
        for (int f : new int[] {LEAST, -2, -1, 5, 6, 256, MOST}) {
            Check.due("power(" + f + ")", pipe.power(f), -1);
        }
    }

    private static int[] block(int high, int low, int... signs) {
        int[] samples = new int[12];
        for (int i = 0; i < 12; i++) {
            samples[i] = signs[i % signs.length] > 0 ? high : low;
        }
        return samples;
    }

    private static void powerGreatest() {
        Check.about("Promise 19: the square of the absolute value, as great as samples can make it");
        int high = Pipes.MAX;
        int low = Pipes.MIN;
        FilterPipe pipe = Pipes.plain();
        pipe.start();
        feedAndDrain(pipe, block(high, low, -1));
        Check.due("all at the least, f 0", pipe.power(0), 10133099161583616L);
        pipe.restart();
        feedAndDrain(pipe, block(high, low, 1));
        Check.due("all at the greatest, f 0", pipe.power(0), 144L * high * high);
        pipe.restart();
        feedAndDrain(pipe, block(high, low, -1, 1));
        long wide = (long) high - low;
        Check.due("alternating, f 4", pipe.power(4), 36 * wide * wide);
        Check.due("alternating, f 0", pipe.power(0), 36);
        pipe.restart();
        feedAndDrain(pipe, block(high, low, 1, 1, -1, -1));
        // 3 (wide + wide i): each of the pairs 1 - w w and w - w w w three times
        Check.due("pairs, f 2", pipe.power(2), 18 * wide * wide);
        pipe.restart();
        feedAndDrain(pipe, block(high, low, 1, 1, 1, -1, -1, -1));
        // 2 wide (1 + w + w w), and |1 + w + w w| is 1 + 2 cos = 2
        Check.due("triples, f 1", pipe.power(1), 16 * wide * wide);
        pipe.restart();
        feedAndDrain(pipe, block(high, low, 1, -1, -1));
        // 4 (high + low w + low w w) = 4 (high - low)
        Check.due("one of three, f 3", pipe.power(3), 16 * wide * wide);
    }
}
