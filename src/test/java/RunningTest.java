/** Promises 9 to 19: what a started pipe does. The answers due are worked out by hand. */
public final class RunningTest {
    private static final int[] NO_COUNTS = {Integer.MIN_VALUE, -1, 0};

    private RunningTest() {
    }

    public static void main(String[] args) {
        start();
        beforeStart();
        restart();
        restartForgetsSamples();
        bytes();
        bytesLimit();
        close();
        produce();
        produceAtTheEnd();
        produceFlush();
        consume();
        interruptProducer();
        interruptConsumer();
        state();
        waiting();
        sinkByte();
        power();
        powerBlocks();
        Check.end();
    }

    private static void start() {
        FilterPipe pipe = new FilterPipe(3);
        pipe.gain(256);
        Check.due("9: start()", pipe.start(), true);
        Check.due("9: state()", pipe.state(), 5);
        for (int where = 0; where < 4; where++) {
            Check.due("9: waiting(" + where + ")", pipe.waiting(where), 0);
        }
        Check.due("9: again", pipe.start(), false);
        pipe.bytes(3, 1);
        Check.due("9: again, with bytes waiting", pipe.start(), false);
        Check.due("9: a refused start changes nothing", pipe.waiting(0), 3);
        pipe.close();
        Pipes.drain(pipe);
        Check.due("9: when all is ended", pipe.start(), false);
        Check.due("9: when all is ended, it stays so", pipe.state(), 10);
    }

    private static void beforeStart() {
        FilterPipe pipe = new FilterPipe(3);
        Check.due("10: restart() before start", pipe.restart(), false);
        Check.due("11: bytes before start", pipe.bytes(1, 1), 0);
        Check.due("12: close() before start", pipe.close(), false);
        Check.due("13: produce before start", pipe.produce(5), 0);
        Check.due("14: consume before start", pipe.consume(5), 0);
        Check.due("15: interrupt(true) before start", pipe.interrupt(true), false);
        Check.due("15: interrupt(false) before start", pipe.interrupt(false), false);
        Check.due("16: state() before start", pipe.state(), 0);
        Check.due("17: waiting(0) before start", pipe.waiting(0), 0);
        Check.due("2: still building", pipe.section(1, 0, 0, 0, 0), true);
        pipe.start();
        Check.due("12: the refused close did not close", pipe.bytes(1, 1), 1);
        Check.due("11: the refused byte did not come", pipe.waiting(0), 1);
    }

    private static void restart() {
        FilterPipe pipe = Pipes.ofBytes(2);
        pipe.bytes(4, 0);
        pipe.bytes(4, 0);
        pipe.produce(5);
        pipe.consume(1);
        pipe.close();
        pipe.interrupt(false);
        Check.due("10: restart()", pipe.restart(), true);
        Check.due("10: state()", pipe.state(), 5);
        for (int where = 0; where < 4; where++) {
            Check.due("10: waiting(" + where + ")", pipe.waiting(where), 0);
        }
        Check.due("10: sinkByte(0)", pipe.sinkByte(0), -1);
        Check.due("10: the source is open", pipe.bytes(1, 7), 1);
        Check.due("10: the format stays", pipe.produce(9), 2);
        Check.due("10: the chain takes no stages", pipe.gain(1), false);
        pipe.interrupt(true);
        pipe.restart();
        Check.due("10: after interrupt(true)", pipe.state(), 5);
        pipe.close();
        Pipes.drain(pipe);
        Check.due("10: all ended", pipe.state(), 10);
        Check.due("10: restart() when all is ended", pipe.restart(), true);
        Check.due("10: after the end", pipe.state(), 5);
        Check.due("10: the close is gone", pipe.close(), true);
        Check.due("10: the flush is to be made again", pipe.produce(9), 2);
    }

    private static void restartForgetsSamples() {
        FilterPipe pipe = Pipes.plain();
        pipe.section(16384, 16384, 16384, -8192, 8192);
        pipe.window(0, 8);
        pipe.resample(3, 2);
        pipe.window(1, 3);
        pipe.resample(1, 3);
        int[] signal = {8000000, -7000000, 6000000, -5000000, 4000000, -3000000, 2000000};
        int[] due = Pipes.whole(pipe, signal);
        for (int cut = 1; cut <= signal.length; cut++) {
            pipe.restart();
            Pipes.feed(pipe, java.util.Arrays.copyOf(signal, cut));
            pipe.produce(3 * cut);
            Pipes.drain(pipe);
            pipe.restart();
            Pipes.feed(pipe, signal);
            pipe.close();
            Pipes.drain(pipe);
            Check.due("10: as at first after " + cut + " samples", Pipes.sunk(pipe), due);
        }
        pipe.restart();
        pipe.close();
        Pipes.drain(pipe);
        Check.due("10: a chain without samples flushes nothing", pipe.waiting(3), 0);
    }

    private static void bytes() {
        FilterPipe pipe = new FilterPipe(12);
        pipe.format(32, true, true);
        pipe.format(8, true, false);
        pipe.start();
        for (int count : new int[] {Integer.MIN_VALUE, -1, 0, 5, Integer.MAX_VALUE}) {
            Check.due("11: bytes(" + count + ")", pipe.bytes(count, 0), 0);
        }
        Check.due("11: none came", pipe.waiting(0), 0);
        Check.due("11: one", pipe.bytes(1, 0xffffff01), 1);
        Check.due("11: two", pipe.bytes(2, 0xffff0302), 2);
        Check.due("11: three", pipe.bytes(3, 0xff060504), 3);
        Check.due("11: four", pipe.bytes(4, 0xfa090807), 4);
        Check.due("11: all wait", pipe.waiting(0), 10);
        Pipes.drain(pipe);
        for (int i = 0; i < 9; i++) {
            Check.due("11: lowest first, byte " + i, pipe.sinkByte(4 * i), (i + 1 - 128) & 255);
        }
        Check.due("11: the highest last", pipe.sinkByte(36), (0xfa - 128) & 255);
        pipe.interrupt(true);
        Check.due("11: when the producer is INTERRUPTED", pipe.bytes(2, 0), 2);
        Check.due("11: they wait", pipe.waiting(0), 2);
    }

    private static void bytesLimit() {
        FilterPipe pipe = Pipes.ofBytes(12);
        for (int i = 0; i < 29; i++) {
            Check.due("11: within 120", pipe.bytes(4, 0), 4);
        }
        Check.due("11: 119", pipe.bytes(3, 0), 3);
        Check.due("11: 121", pipe.bytes(2, 0), 0);
        Check.due("11: taken bytes make no room", pipe.produce(7), 7);
        Check.due("11: 121 again", pipe.bytes(2, 0), 0);
        Check.due("11: 120", pipe.bytes(1, 0), 1);
        Check.due("11: 121 once more", pipe.bytes(1, 0), 0);
        pipe.restart();
        for (int i = 0; i < 30; i++) {
            Check.due("11: 120 anew after restart", pipe.bytes(4, 0), 4);
        }
        Check.due("11: 121 after restart", pipe.bytes(1, 0), 0);
        Check.due("11: all wait", pipe.waiting(0), 120);
    }

    private static void close() {
        FilterPipe pipe = Pipes.ofBytes(3);
        pipe.bytes(1, 0);
        Check.due("12: close()", pipe.close(), true);
        Check.due("12: again", pipe.close(), false);
        Check.due("11: when closed", pipe.bytes(1, 0), 0);
        Check.due("12: the bytes stay", pipe.waiting(0), 1);
        Check.due("12: both run on", pipe.state(), 5);
        Pipes.drain(pipe);
        Check.due("12: at the end", pipe.close(), false);
        FilterPipe interrupted = Pipes.ofBytes(3);
        interrupted.interrupt(true);
        interrupted.interrupt(false);
        Check.due("12: when both are INTERRUPTED", interrupted.close(), true);
    }

    private static void produce() {
        FilterPipe pipe = new FilterPipe(2);
        pipe.window(0, 2);
        pipe.resample(2, 1);
        pipe.start();
        Check.due("13: nothing to take", pipe.produce(1), 0);
        pipe.bytes(1, 1);
        Check.due("13: half a sample", pipe.produce(1), 0);
        pipe.bytes(3, 1);
        for (int n : NO_COUNTS) {
            Check.due("13: produce(" + n + ")", pipe.produce(n), 0);
        }
        Check.due("13: one step takes a sample", pipe.produce(1), 1);
        Check.due("13: its bytes are taken", pipe.waiting(0), 2);
        Check.due("13: two are held", pipe.waiting(1), 2);
        Check.due("13: the ring is empty yet", pipe.waiting(2), 0);
        Check.due("13: one step hands one over", pipe.produce(1), 1);
        Check.due("13: one is held", pipe.waiting(1), 1);
        Check.due("13: one is in the ring", pipe.waiting(2), 1);
        Check.due("13: till the ring is full", pipe.produce(Integer.MAX_VALUE), 2);
        Check.due("13: two are held", pipe.waiting(1), 2);
        Check.due("13: a full ring", pipe.produce(1), 0);
        pipe.close();
        Check.due("13: a full ring, closed", pipe.produce(1), 0);
        pipe.consume(1);
        Check.due("13: room for one", pipe.produce(9), 1);

        FilterPipe silent = new FilterPipe(2);
        silent.format(8, false, false);
        silent.resample(1, 4);
        silent.start();
        silent.bytes(4, 0);
        Check.due("13: a sample of which nothing is made is a step", silent.produce(9), 5);
        Check.due("13: the one made is in the ring", silent.waiting(2), 1);
    }

    private static void produceAtTheEnd() {
        FilterPipe pipe = new FilterPipe(4);
        pipe.start();
        pipe.bytes(3, 0x010203);
        pipe.close();
        Check.due("13: the whole sample first", pipe.produce(2), 2);
        Check.due("13: one byte waits", pipe.waiting(0), 1);
        Check.due("13: flush", pipe.produce(1), 1);
        Check.due("13: the byte is dropped", pipe.waiting(0), 0);
        Check.due("13: not ENDED by the flush", pipe.state(), 5);
        Check.due("13: ENDED", pipe.produce(9), 1);
        Check.due("13: state()", pipe.state(), 6);
        Check.due("13: no step when ENDED", pipe.produce(9), 0);
    }

    private static void produceFlush() {
        FilterPipe pipe = Pipes.plain();
        pipe.window(0, 4);
        pipe.start();
        Pipes.feed(pipe, 400);
        pipe.close();
        Check.due("13: sample and hand over", pipe.produce(2), 2);
        Check.due("13: flush", pipe.produce(1), 1);
        Check.due("13: the flush is held", pipe.waiting(1), 3);
        Check.due("13: handed over, and ENDED", pipe.produce(9), 4);
        Pipes.drain(pipe);
        Check.due("13: flushed once", Pipes.sunk(pipe), 100, 100, 100, 100);
    }

    private static void consume() {
        FilterPipe pipe = Pipes.ofBytes(5);
        Check.due("14: an empty ring", pipe.consume(1), 0);
        Check.due("14: it waits", pipe.state(), 5);
        pipe.bytes(4, 0x83828180);
        pipe.produce(100);
        for (int n : NO_COUNTS) {
            Check.due("14: consume(" + n + ")", pipe.consume(n), 0);
        }
        Check.due("14: one", pipe.consume(1), 1);
        Check.due("14: one in the sink", pipe.waiting(3), 1);
        Check.due("14: three in the ring", pipe.waiting(2), 3);
        pipe.close();
        Check.due("14: the rest", pipe.consume(Integer.MAX_VALUE), 3);
        Check.due("14: a closed source is not the end", pipe.consume(1), 0);
        Check.due("14: in order", Pipes.sunk(pipe), 0, 65536, 2 * 65536, 3 * 65536);
        pipe.produce(9);
        Check.due("14: state()", pipe.state(), 6);
        Check.due("14: ENDED is a step", pipe.consume(9), 1);
        Check.due("14: state()", pipe.state(), 10);
        Check.due("14: no step when ENDED", pipe.consume(9), 0);
    }

    private static void interruptProducer() {
        FilterPipe pipe = Pipes.ofBytes(2);
        pipe.bytes(4, 0);
        pipe.produce(9);
        Check.due("15: one is held", pipe.waiting(1), 1);
        Check.due("15: interrupt(true)", pipe.interrupt(true), true);
        Check.due("15: state()", pipe.state(), 7);
        Check.due("15: what it held is dropped", pipe.waiting(1), 0);
        Check.due("15: the ring stays", pipe.waiting(2), 2);
        Check.due("15: the source stays", pipe.waiting(0), 1);
        Check.due("15: again", pipe.interrupt(true), false);
        Check.due("15: no step when INTERRUPTED", pipe.produce(1), 0);
        Check.due("15: the consumer goes on, and is ENDED", pipe.consume(9), 3);
        Check.due("15: state()", pipe.state(), 11);
        Check.due("15: an ENDED consumer", pipe.interrupt(false), false);
        Check.due("15: state() stays", pipe.state(), 11);
    }

    private static void interruptConsumer() {
        FilterPipe pipe = Pipes.ofBytes(2);
        pipe.bytes(4, 0);
        pipe.bytes(1, 0);
        pipe.produce(2);
        Check.due("15: interrupt(false)", pipe.interrupt(false), true);
        Check.due("15: state()", pipe.state(), 13);
        Check.due("15: again", pipe.interrupt(false), false);
        Check.due("15: no step when INTERRUPTED", pipe.consume(1), 0);
        Check.due("15: the ring stays", pipe.waiting(2), 1);
        Check.due("15: it takes one more", pipe.produce(1), 1);
        Check.due("15: one is held", pipe.waiting(1), 1);
        Check.due("15: though the ring has room, it is dropped: ENDED", pipe.produce(9), 1);
        Check.due("15: state()", pipe.state(), 14);
        Check.due("15: none is held", pipe.waiting(1), 0);
        Check.due("15: the ring stays", pipe.waiting(2), 1);
        Check.due("15: the source stays", pipe.waiting(0), 3);
        Check.due("15: an ENDED producer", pipe.interrupt(true), false);

        FilterPipe idle = Pipes.ofBytes(2);
        idle.interrupt(false);
        Check.due("15: holding nothing, it waits for bytes", idle.produce(1), 0);
        idle.close();
        Check.due("15: holding nothing, it flushes and ends", idle.produce(9), 2);
        Check.due("15: state()", idle.state(), 14);

        FilterPipe full = Pipes.ofBytes(1);
        full.bytes(3, 0);
        full.produce(9);
        full.interrupt(false);
        Check.due("15: behind a full ring too", full.produce(9), 1);
        Check.due("15: state()", full.state(), 14);

        FilterPipe both = Pipes.ofBytes(1);
        Check.due("15: one", both.interrupt(true), true);
        Check.due("15: and the other", both.interrupt(false), true);
        Check.due("15: state()", both.state(), 15);
    }

    private static void state() {
        FilterPipe pipe = Pipes.ofBytes(1);
        Check.due("16: RUNNING, RUNNING", pipe.state(), 5);
        pipe.close();
        pipe.produce(9);
        Check.due("16: ENDED, RUNNING", pipe.state(), 6);
        pipe.interrupt(false);
        Check.due("16: ENDED, INTERRUPTED", pipe.state(), 14);
        pipe.restart();
        pipe.interrupt(true);
        Check.due("16: INTERRUPTED, RUNNING", pipe.state(), 7);
    }

    private static void waiting() {
        FilterPipe pipe = Pipes.ofBytes(2);
        pipe.bytes(4, 0);
        pipe.bytes(3, 0);
        pipe.produce(4);
        pipe.consume(1);
        pipe.produce(3);
        Check.due("17: source", pipe.waiting(0), 3);
        Check.due("17: held", pipe.waiting(1), 1);
        Check.due("17: ring", pipe.waiting(2), 2);
        Check.due("17: sink", pipe.waiting(3), 1);
        for (int where : new int[] {-1, 4, Integer.MIN_VALUE, Integer.MAX_VALUE}) {
            Check.due("17: waiting(" + where + ")", pipe.waiting(where), -1);
        }
    }

    private static void sinkByte() {
        FilterPipe pipe = Pipes.ofBytes(4);
        pipe.bytes(2, 0x8281);
        pipe.produce(9);
        Check.due("18: the ring is not the sink", pipe.sinkByte(0), -1);
        pipe.consume(2);
        int[] due = {0, 0, 1, 0, 0, 2};
        for (int i = 0; i < due.length; i++) {
            Check.due("18: sinkByte(" + i + ")", pipe.sinkByte(i), due[i]);
        }
        for (int i : new int[] {6, 7, -1, -3, Integer.MIN_VALUE, Integer.MAX_VALUE}) {
            Check.due("18: sinkByte(" + i + ")", pipe.sinkByte(i), -1);
        }
    }

    private static void feedAndDrain(FilterPipe pipe, int... samples) {
        Pipes.feed(pipe, samples);
        Pipes.drain(pipe);
    }

    private static void power() {
        FilterPipe pipe = Pipes.plain();
        pipe.start();
        feedAndDrain(pipe, 0, 3, 0, 0, 0, 0, 0, 0, 0, 0, 0);
        Check.due("19: no whole block", pipe.power(0), -1);
        feedAndDrain(pipe, 0);
        for (int f = 0; f < 5; f++) {
            Check.due("19: one sample alone, f " + f, pipe.power(f), 9);
        }
        for (int f : new int[] {-1, 5, Integer.MIN_VALUE, Integer.MAX_VALUE}) {
            Check.due("19: power(" + f + ")", pipe.power(f), -1);
        }
        pipe.restart();
        // 1 + 2 w: |.|^2 = 5 + 4 cos
        feedAndDrain(pipe, 1, 2, 0, 0, 0, 0, 0, 0, 0, 0, 0, 0);
        Check.due("19: 1 + 2 w, f 0", pipe.power(0), 9);
        Check.due("19: 1 + 2 w, f 1", pipe.power(1), 7);
        Check.due("19: 1 + 2 w, f 2", pipe.power(2), 5);
        Check.due("19: 1 + 2 w, f 3", pipe.power(3), 3);
        Check.due("19: 1 + 2 w, f 4", pipe.power(4), 1);
    }

    private static void powerBlocks() {
        int high = Pipes.MAX;
        int low = Pipes.MIN;
        FilterPipe pipe = Pipes.plain();
        pipe.start();
        feedAndDrain(pipe, low, low, low, low, low, low, low, low, low, low, low, low);
        Check.due("19: greatest sum", pipe.power(0), 12L * low * 12L * low);
        for (int f = 1; f < 5; f++) {
            Check.due("19: a constant has no tone, f " + f, pipe.power(f), 0);
        }
        feedAndDrain(pipe, high, low, high, low, high, low, high, low, high, low, high);
        Check.due("19: the latest whole block", pipe.power(0), 12L * low * 12L * low);
        feedAndDrain(pipe, low);
        Check.due("19: the second block", pipe.power(0), 36);
        Check.due("19: greatest alternating sum", pipe.power(4), 6L * (high - low) * 6L * (high - low));
        feedAndDrain(pipe, 5);
        Check.due("19: one sample more", pipe.power(0), 36);
    }
}
