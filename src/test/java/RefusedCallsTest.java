/**
 * "A call that answers false, or 0 for bytes(), changes nothing": each call that the document refuses, at each point
 * of a pipe's life; and likewise the calls that make no step, and those that only ask.
 */
public final class RefusedCallsTest {
    private static final int LEAST = Integer.MIN_VALUE;
    private static final int MOST = Integer.MAX_VALUE;

    private final Phase phase;

    private RefusedCallsTest(Phase phase) {
        this.phase = phase;
    }

    public static void main(String[] args) {
        for (Phase phase : Phase.all()) {
            Check.about("refused when " + phase.name);
            RefusedCallsTest test = new RefusedCallsTest(phase);
            test.isWhereItShould();
            test.wrongNumbers();
            test.wrongNumbersForSection();
            test.fullChain();
            test.alreadyStarted();
            test.notStarted();
            test.source();
            test.notRunning();
            test.noSteps();
            test.onlyAsking();
        }
        Check.end();
    }

    private void refused(String call, Twins.Call made) {
        Twins.refused(phase.name + ": " + call, phase.room, phase::on, made);
    }

    private void isWhereItShould() {
        FilterPipe pipe = phase.reached();
        Check.due(phase.name + ": state()", pipe.state(), phase.producer + 4 * phase.consumer);
        for (int where = 0; where < 4; where++) {
            Check.due(phase.name + ": waiting(" + where + ")", pipe.waiting(where), phase.waiting[where]);
        }
    }

    private void wrongNumbers() {
        for (int k : new int[] {LEAST, -1, 0, 97, MOST}) {
            refused("halfPower(" + k + ", false)", pipe -> Twins.of(pipe.halfPower(k, false)));
            refused("halfPower(" + k + ", true)", pipe -> Twins.of(pipe.halfPower(k, true)));
        }
        for (int g : new int[] {LEAST, -1025, 1025, MOST}) {
            refused("gain(" + g + ")", pipe -> Twins.of(pipe.gain(g)));
        }
        for (int kind : new int[] {LEAST, -1, 3, MOST}) {
            refused("window(" + kind + ", 4)", pipe -> Twins.of(pipe.window(kind, 4)));
        }
        for (int length : new int[] {LEAST, -1, 0, 9, MOST}) {
            refused("window(1, " + length + ")", pipe -> Twins.of(pipe.window(1, length)));
        }
        for (int factor : new int[] {LEAST, -1, 0, 5, MOST}) {
            refused("resample(" + factor + ", 2)", pipe -> Twins.of(pipe.resample(factor, 2)));
            refused("resample(3, " + factor + ")", pipe -> Twins.of(pipe.resample(3, factor)));
        }
        for (int bits : new int[] {LEAST, -16, -1, 0, 7, 9, 15, 17, 23, 25, 31, 33, 40, MOST}) {
            refused("format(" + bits + ", true, false)", pipe -> Twins.of(pipe.format(bits, true, false)));
            refused("format(" + bits + ", true, true)", pipe -> Twins.of(pipe.format(bits, true, true)));
        }
        for (int count : new int[] {LEAST, -1, 0, 5, 8, MOST}) {
            refused("bytes(" + count + ", 1)", pipe -> pipe.bytes(count, 1));
        }
    }

    private void wrongNumbersForSection() {
        for (int place = 0; place < 5; place++) {
            for (int beyond : new int[] {LEAST, -32769, 32768, MOST}) {
                int[] n = new int[5];
                n[place] = beyond;
                refused("section with " + beyond + " at " + place, pipe -> Twins.of(pipe.section(n[0], n[1], n[2], n[3], n[4])));
            }
        }
        int[][] unstable = {{0, 16384}, {0, -16384}, {16384, 0}, {-16384, 0}, {32767, 16383}, {-32767, 16383}, {1, -16383}, {-1, -16383}};
        for (int[] a : unstable) {
            refused("section with " + a[0] + ", " + a[1], pipe -> Twins.of(pipe.section(16384, 0, 0, a[0], a[1])));
        }
    }

    private void fullChain() {
        if (phase.stages == 5 || phase.isStarted()) {
            refused("section(16384, 0, 0, 0, 0)", pipe -> Twins.of(pipe.section(16384, 0, 0, 0, 0)));
            refused("halfPower(16, false)", pipe -> Twins.of(pipe.halfPower(16, false)));
            refused("gain(512)", pipe -> Twins.of(pipe.gain(512)));
            refused("window(0, 1)", pipe -> Twins.of(pipe.window(0, 1)));
        }
        if (phase.stages == 5 || phase.isStarted() || phase.resamplers == 2) {
            refused("resample(1, 1)", pipe -> Twins.of(pipe.resample(1, 1)));
            refused("resample(4, 3)", pipe -> Twins.of(pipe.resample(4, 3)));
        }
    }

    private void alreadyStarted() {
        if (!phase.isStarted()) {
            return;
        }
        refused("start()", pipe -> Twins.of(pipe.start()));
        for (int bits = 8; bits <= 32; bits += 8) {
            int width = bits;
            refused("format(" + bits + ", true, false)", pipe -> Twins.of(pipe.format(width, true, false)));
            refused("format(" + bits + ", true, true)", pipe -> Twins.of(pipe.format(width, true, true)));
        }
    }

    private void notStarted() {
        if (phase.isStarted()) {
            return;
        }
        refused("restart()", pipe -> Twins.of(pipe.restart()));
        refused("close()", pipe -> Twins.of(pipe.close()));
        for (int count = 1; count <= 4; count++) {
            int some = count;
            refused("bytes(" + count + ", 1)", pipe -> pipe.bytes(some, 1));
        }
    }

    private void source() {
        for (int count = 1; count <= 4; count++) {
            int some = count;
            if (phase.closed || phase.came + count > 120) {
                refused("bytes(" + count + ", 1)", pipe -> pipe.bytes(some, 1));
            }
        }
        if (phase.closed) {
            refused("close()", pipe -> Twins.of(pipe.close()));
        }
    }

    private void notRunning() {
        if (phase.producer != Phase.RUNNING) {
            refused("interrupt(true)", pipe -> Twins.of(pipe.interrupt(true)));
            refused("produce(1)", pipe -> pipe.produce(1));
            refused("produce(" + MOST + ")", pipe -> pipe.produce(MOST));
        }
        if (phase.consumer != Phase.RUNNING) {
            refused("interrupt(false)", pipe -> Twins.of(pipe.interrupt(false)));
            refused("consume(1)", pipe -> pipe.consume(1));
            refused("consume(" + MOST + ")", pipe -> pipe.consume(MOST));
        }
    }

    private void noSteps() {
        for (int n : new int[] {LEAST, -1, 0}) {
            refused("produce(" + n + ")", pipe -> pipe.produce(n));
            refused("consume(" + n + ")", pipe -> pipe.consume(n));
        }
        if (phase.producerWaits) {
            refused("produce(1)", pipe -> pipe.produce(1));
            refused("produce(" + MOST + ")", pipe -> pipe.produce(MOST));
        }
        if (phase.consumerWaits) {
            refused("consume(1)", pipe -> pipe.consume(1));
            refused("consume(" + MOST + ")", pipe -> pipe.consume(MOST));
        }
    }

    /** Asks all at once, so that a change by any of the asking calls shows. */
    private static long ask(FilterPipe pipe) {
        for (int i = -1; i <= 5; i++) {
            pipe.waiting(i);
            pipe.power(i);
            pipe.sinkByte(i);
            pipe.response(i, 0);
            pipe.response(0, 97 * i);
        }
        pipe.sinkByte(MOST);
        pipe.sinkByte(LEAST);
        return pipe.waiting(4);
    }

    private void onlyAsking() {
        Twins.unchanged(phase.name + ": asking", phase.room, phase::on, RefusedCallsTest::ask, -1);
    }
}
