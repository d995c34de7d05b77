/**
 * The edges that "Terms" names for PRODUCER, CONSUMER, their STEPS and the ring: one test for each sentence that names
 * one. The answers due are worked out by hand.
 */
public final class StepsEdgesTest {
    private static final int MANY = Integer.MAX_VALUE;

    private StepsEdgesTest() {
    }

    public static void main(String[] args) {
        idleBeforeStart();
        onlyRunningMakesSteps();
        holdsAndConsumerInterrupted();
        holdsNothingAndConsumerInterrupted();
        holdsAndRoom();
        holdsAndFull();
        takesSample();
        takesSampleThatMakesNothing();
        lessThanASample();
        closedAndNotFlushed();
        closedButSamplesWait();
        flushedOnce();
        closedAndFlushed();
        noStepOfProducer();
        consumerTakesOldest();
        consumerEnds();
        consumerWaits();
        ringOfEachRoom();
        ringGoesRound();
        Check.end();
    }

    private static void waits(FilterPipe pipe, int source, int held, int ring, int sink) {
        Check.due("bytes in the source", pipe.waiting(0), source);
        Check.due("held", pipe.waiting(1), held);
        Check.due("in the ring", pipe.waiting(2), ring);
        Check.due("in the sink", pipe.waiting(3), sink);
    }

    /** A started pipe of 8 bits that makes two samples of each one. */
    private static FilterPipe doubling(int room) {
        FilterPipe pipe = new FilterPipe(room);
        pipe.format(8, false, false);
        pipe.format(24, false, true);
        pipe.resample(2, 1);
        pipe.start();
        return pipe;
    }

    private static void idleBeforeStart() {
        Check.about("PRODUCER and CONSUMER are each IDLE (0, before start())");
        FilterPipe pipe = new FilterPipe(1);
        Check.due("new", pipe.state(), 0);
        pipe.gain(1);
        pipe.format(8, false, false);
        Check.due("built", pipe.state(), 0);
        pipe.produce(1);
        pipe.consume(1);
        pipe.restart();
        pipe.close();
        pipe.interrupt(true);
        pipe.interrupt(false);
        Check.due("after refused calls", pipe.state(), 0);
        pipe.start();
        Check.due("RUNNING", pipe.state(), 5);
    }

    private static void onlyRunningMakesSteps() {
        Check.about("only one that is RUNNING makes steps");
        FilterPipe pipe = Pipes.ofBytes(3);
        pipe.bytes(4, 0);
        pipe.produce(4);
        pipe.interrupt(true);
        Check.due("INTERRUPTED producer, samples wait", pipe.produce(MANY), 0);
        waits(pipe, 2, 0, 2, 0);
        pipe.interrupt(false);
        Check.due("INTERRUPTED consumer, the ring is not empty", pipe.consume(MANY), 0);
        waits(pipe, 2, 0, 2, 0);

        FilterPipe ended = Pipes.ofBytes(3);
        ended.bytes(1, 0);
        ended.close();
        ended.produce(4);
        Check.due("ENDED producer", ended.produce(MANY), 0);
        ended.consume(2);
        Check.due("ENDED consumer", ended.consume(MANY), 0);
        Check.due("state()", ended.state(), 10);

        FilterPipe stopped = doubling(3);
        stopped.bytes(4, 0);
        stopped.produce(1);
        stopped.interrupt(false);
        stopped.produce(1);
        Check.due("ENDED producer, bytes wait", stopped.produce(MANY), 0);
        waits(stopped, 3, 0, 0, 0);
    }

    private static void holdsAndConsumerInterrupted() {
        Check.about("it holds samples and the consumer is INTERRUPTED: it drops them and is ENDED");
        FilterPipe room = doubling(3);
        room.bytes(2, 0);
        room.produce(2);
        waits(room, 1, 1, 1, 0);
        room.interrupt(false);
        Check.due("it still runs", room.state(), 13);
        Check.due("the ring has room", room.produce(MANY), 1);
        waits(room, 1, 0, 1, 0);
        Check.due("ENDED", room.state(), 14);

        FilterPipe full = doubling(1);
        full.bytes(2, 0);
        full.produce(2);
        full.interrupt(false);
        Check.due("the ring is full", full.produce(MANY), 1);
        waits(full, 1, 0, 1, 0);
        Check.due("ENDED", full.state(), 14);

        FilterPipe many = doubling(1);
        many.bytes(2, 0);
        many.close();
        many.produce(1);
        many.interrupt(false);
        Check.due("all it holds, in one step", many.produce(1), 1);
        waits(many, 1, 0, 0, 0);
        Check.due("ENDED, though not flushed", many.state(), 14);
    }

    private static void holdsNothingAndConsumerInterrupted() {
        Check.about("it holds samples and the consumer is INTERRUPTED: does not apply if it holds none");
        FilterPipe pipe = doubling(3);
        pipe.interrupt(false);
        Check.due("nothing waits", pipe.produce(MANY), 0);
        Check.due("RUNNING", pipe.state(), 13);
        pipe.bytes(3, 0);
        Check.due("it takes a sample, drops what it makes", pipe.produce(MANY), 2);
        waits(pipe, 2, 0, 0, 0);
        Check.due("ENDED", pipe.state(), 14);

        FilterPipe flush = Pipes.ofBytes(3);
        flush.interrupt(false);
        flush.close();
        Check.due("a flush that makes nothing", flush.produce(1), 1);
        Check.due("RUNNING", flush.state(), 13);
        Check.due("the end", flush.produce(MANY), 1);
        Check.due("ENDED", flush.state(), 14);
    }

    private static void holdsAndRoom() {
        Check.about("it holds samples and the ring has room: the oldest one goes into the ring");
        FilterPipe pipe = doubling(3);
        pipe.bytes(2, 0xff80);
        pipe.close();
        Check.due("takes one", pipe.produce(1), 1);
        waits(pipe, 1, 2, 0, 0);
        Check.due("the first one", pipe.produce(1), 1);
        waits(pipe, 1, 1, 1, 0);
        Check.due("the second one, before the next is taken", pipe.produce(1), 1);
        waits(pipe, 1, 0, 2, 0);
        Check.due("takes the next", pipe.produce(1), 1);
        waits(pipe, 0, 2, 2, 0);
        Check.due("the last room", pipe.produce(MANY), 1);
        waits(pipe, 0, 1, 3, 0);
        pipe.consume(2);
        Check.due("room again, then the flush, and its first one", pipe.produce(MANY), 3);
        waits(pipe, 0, 1, 3, 2);
        pipe.consume(3);
        pipe.produce(1);
        pipe.consume(1);
        int half = 127 * 32768;
        Check.due("the oldest first", Pipes.sunk(pipe), 0, 0, half, 2 * half, half, 0);
    }

    private static void holdsAndFull() {
        Check.about("it holds samples (and the ring is full): no step can be made");
        FilterPipe pipe = doubling(1);
        pipe.bytes(4, 0);
        Check.due("takes one, hands one over", pipe.produce(MANY), 2);
        Check.due("full", pipe.produce(1), 0);
        Check.due("full", pipe.produce(MANY), 0);
        waits(pipe, 3, 1, 1, 0);
        pipe.close();
        Check.due("full, and closed", pipe.produce(MANY), 0);
        waits(pipe, 3, 1, 1, 0);
        Check.due("it still runs", pipe.state(), 5);
        pipe.consume(1);
        Check.due("room for one; holding none, it takes one", pipe.produce(MANY), 2);
        waits(pipe, 2, 2, 1, 1);
    }

    private static void takesSample() {
        Check.about("all bytes of a sample wait in the source: it takes this sample, and holds what comes out of the chain");
        for (int bits = 8; bits <= 32; bits += 8) {
            FilterPipe pipe = new FilterPipe(1);
            pipe.format(bits, false, false);
            pipe.resample(4, 1);
            pipe.start();
            int width = bits / 8;
            for (int i = 0; i < width; i++) {
                Check.due(i + " bytes of " + width, pipe.produce(MANY), 0);
                pipe.bytes(1, 1);
            }
            Check.due("all " + width, pipe.produce(1), 1);
            waits(pipe, 0, 4, 0, 0);
        }
        FilterPipe full = Pipes.ofBytes(1);
        full.bytes(2, 0);
        Check.due("with the ring full, if it holds none", full.produce(MANY), 3);
        waits(full, 0, 1, 1, 0);
    }

    private static void takesSampleThatMakesNothing() {
        Check.about("it takes this sample, and holds what comes out of the chain: also if nothing comes out");
        FilterPipe pipe = new FilterPipe(1);
        pipe.format(8, false, false);
        pipe.resample(1, 4);
        pipe.resample(1, 4);
        pipe.start();
        pipe.bytes(4, 0);
        Check.due("the first sample", pipe.produce(1), 1);
        waits(pipe, 3, 1, 0, 0);
        Check.due("one handed over, three that make nothing", pipe.produce(MANY), 4);
        waits(pipe, 0, 0, 1, 0);
        for (int i = 0; i < 3; i++) {
            pipe.bytes(4, 0);
        }
        Check.due("twelve that make nothing", pipe.produce(MANY), 12);
        waits(pipe, 0, 0, 1, 0);
        pipe.bytes(1, 0);
        Check.due("sample 16 makes one", pipe.produce(MANY), 1);
        waits(pipe, 0, 1, 1, 0);
    }

    private static void lessThanASample() {
        Check.about("the source is closed and the chain was not flushed: what still waits in the source is dropped");
        for (int bits = 8; bits <= 32; bits += 8) {
            int width = bits / 8;
            for (int part = 0; part < width; part++) {
                FilterPipe pipe = new FilterPipe(3);
                pipe.format(bits, false, false);
                pipe.start();
                pipe.bytes(width, 0);
                pipe.bytes(part, 0);
                Check.due("the sample", pipe.produce(MANY), 2);
                waits(pipe, part, 0, 1, 0);
                pipe.close();
                waits(pipe, part, 0, 1, 0);
                Check.due("the flush", pipe.produce(1), 1);
                waits(pipe, 0, 0, 1, 0);
                Check.due("RUNNING", pipe.state(), 5);
                Check.due("the end", pipe.produce(MANY), 1);
            }
        }
    }

    private static void closedAndNotFlushed() {
        Check.about("the chain is flushed, and it holds what comes out, in order");
        FilterPipe pipe = Pipes.plain();
        pipe.window(1, 4);
        pipe.start();
        Pipes.feed(pipe, 600);
        pipe.close();
        pipe.produce(2);
        Check.due("the flush", pipe.produce(1), 1);
        waits(pipe, 0, 3, 1, 0);
        Check.due("three, and the end", pipe.produce(MANY), 4);
        pipe.consume(MANY);
        Check.due("in order", Pipes.sunk(pipe), 100, 200, 200, 100);
    }

    private static void closedButSamplesWait() {
        Check.about("the source is closed: samples that wait are taken first");
        FilterPipe pipe = Pipes.ofBytes(12);
        pipe.bytes(3, 0);
        pipe.close();
        Check.due("the first", pipe.produce(1), 1);
        waits(pipe, 2, 1, 0, 0);
        Check.due("all three", pipe.produce(5), 5);
        waits(pipe, 0, 0, 3, 0);
        Check.due("the flush and the end", pipe.produce(MANY), 2);
        Check.due("state()", pipe.state(), 6);
    }

    private static void flushedOnce() {
        Check.about("the chain was not flushed: it is flushed once");
        FilterPipe pipe = Pipes.plain();
        pipe.window(0, 2);
        pipe.start();
        Pipes.feed(pipe, 10);
        pipe.close();
        Check.due("sample, hand over, flush, hand over, end", pipe.produce(MANY), 5);
        pipe.consume(MANY);
        Check.due("one sample by the flush", Pipes.sunk(pipe), 5, 5);
    }

    private static void closedAndFlushed() {
        Check.about("the source is closed: it is ENDED");
        FilterPipe pipe = Pipes.ofBytes(1);
        pipe.close();
        Check.due("nothing came: the flush", pipe.produce(1), 1);
        Check.due("RUNNING", pipe.state(), 5);
        Check.due("the end", pipe.produce(1), 1);
        Check.due("ENDED", pipe.state(), 6);
        Check.due("no more", pipe.produce(1), 0);

        FilterPipe full = Pipes.ofBytes(1);
        full.bytes(1, 0);
        full.close();
        Check.due("with the ring full too, if it holds none", full.produce(MANY), 4);
        waits(full, 0, 0, 1, 0);
        Check.due("ENDED", full.state(), 6);
    }

    private static void noStepOfProducer() {
        Check.about("no step can be made");
        FilterPipe pipe = new FilterPipe(2);
        pipe.start();
        Check.due("an empty source", pipe.produce(MANY), 0);
        pipe.bytes(1, 0);
        Check.due("half a sample", pipe.produce(MANY), 0);
        waits(pipe, 1, 0, 0, 0);
        pipe.bytes(1, 0);
        Check.due("a sample", pipe.produce(MANY), 2);
        Check.due("no more", pipe.produce(MANY), 0);
        Check.due("RUNNING", pipe.state(), 5);
    }

    private static void consumerTakesOldest() {
        Check.about("if the ring is not empty, its oldest sample goes into the sink");
        FilterPipe pipe = Pipes.ofBytes(3);
        pipe.bytes(3, 0x838281);
        pipe.produce(6);
        Check.due("one", pipe.consume(1), 1);
        Check.due("the oldest", Pipes.sunk(pipe), 65536);
        pipe.interrupt(true);
        Check.due("also when the producer is INTERRUPTED", pipe.consume(1), 1);
        Check.due("the next", Pipes.sunk(pipe), 65536, 2 * 65536);
        Check.due("the last, not yet the end", pipe.consume(1), 1);
        Check.due("RUNNING", pipe.state(), 7);

        FilterPipe ended = Pipes.ofBytes(3);
        ended.bytes(2, 0x8281);
        ended.close();
        ended.produce(MANY);
        Check.due("the producer is ENDED", ended.state(), 6);
        Check.due("also when the producer is ENDED", ended.consume(2), 2);
        Check.due("RUNNING", ended.state(), 6);
        waits(ended, 0, 0, 0, 2);
    }

    private static void consumerEnds() {
        Check.about("if it is empty and the producer is ENDED or INTERRUPTED, the consumer is ENDED");
        FilterPipe ended = Pipes.ofBytes(3);
        ended.close();
        ended.produce(2);
        Check.due("ENDED producer", ended.consume(MANY), 1);
        Check.due("state()", ended.state(), 10);
        FilterPipe interrupted = Pipes.ofBytes(3);
        interrupted.bytes(2, 0);
        interrupted.produce(2);
        interrupted.interrupt(true);
        Check.due("INTERRUPTED producer: the sample and the end", interrupted.consume(MANY), 2);
        Check.due("state()", interrupted.state(), 11);
        waits(interrupted, 1, 0, 0, 1);
    }

    private static void consumerWaits() {
        Check.about("otherwise no step can be made: the ring is empty and the producer is RUNNING");
        FilterPipe pipe = doubling(3);
        Check.due("nothing came", pipe.consume(MANY), 0);
        pipe.bytes(1, 0);
        Check.due("a sample waits in the source", pipe.consume(MANY), 0);
        pipe.produce(1);
        Check.due("samples are held", pipe.consume(MANY), 0);
        pipe.produce(1);
        Check.due("one is in the ring", pipe.consume(MANY), 1);
        pipe.produce(1);
        pipe.consume(1);
        pipe.close();
        Check.due("the source is closed", pipe.consume(MANY), 0);
        pipe.produce(1);
        Check.due("the flush is held", pipe.consume(MANY), 0);
        pipe.produce(2);
        Check.due("the flush is in the ring", pipe.consume(MANY), 2);
        Check.due("not ENDED yet", pipe.consume(MANY), 0);
        Check.due("state()", pipe.state(), 5);
    }

    private static void ringOfEachRoom() {
        Check.about("a full and an empty ring, of each room");
        for (int room = 1; room <= 12; room++) {
            FilterPipe pipe = Pipes.ofBytes(room);
            for (int i = 0; i < 4; i++) {
                pipe.bytes(4, 0);
            }
            Check.due("room " + room + ": filled but for one", pipe.produce(2 * room - 2), 2 * room - 2);
            waits(pipe, 17 - room, 0, room - 1, 0);
            Check.due("room " + room + ": filled, and one more is held", pipe.produce(MANY), 3);
            waits(pipe, 15 - room, 1, room, 0);
            Check.due("room " + room + ": full", pipe.produce(MANY), 0);
            Check.due("room " + room + ": one taken out", pipe.consume(1), 1);
            Check.due("room " + room + ": one more goes in, one more is held", pipe.produce(MANY), 2);
            waits(pipe, 14 - room, 1, room, 1);
            Check.due("room " + room + ": emptied", pipe.consume(MANY), room);
            Check.due("room " + room + ": empty", pipe.consume(MANY), 0);
            waits(pipe, 14 - room, 1, 0, room + 1);
        }
    }

    private static void ringGoesRound() {
        Check.about("the ring goes round: the samples stay in order");
        for (int room = 1; room <= 12; room++) {
            for (int taken = 1; taken <= 4; taken++) {
                FilterPipe pipe = new FilterPipe(room);
                pipe.format(8, false, false);
                pipe.format(8, false, true);
                pipe.start();
                for (int i = 0; i < 30; i++) {
                    pipe.bytes(4, 0x03020100 + 0x04040404 * i);
                }
                int steps = 1;
                for (int i = 0; i < 130 && steps > 0; i++) {
                    steps = pipe.produce(9) + pipe.consume(taken);
                }
                Check.due("room " + room + ": all 120", pipe.waiting(3), 120);
                for (int i = 0; i < 120; i++) {
                    Check.due("room " + room + ": sample " + i, pipe.sinkByte(i), i);
                }
            }
        }
    }
}
