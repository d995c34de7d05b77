import java.util.Random;

/** Runs of up to 512 calls, drawn from fixed seeds: the program must answer each call as the model does. */
public final class RandomRunsTest {
    private static final int RUNS = 6000;
    private static final int[] ODD = {Integer.MIN_VALUE, Integer.MAX_VALUE, -1, 0, 1, 5, 97, 16384, -16384, 32768, -32769};

    private final Random random;
    private final String run;
    private final FilterPipe pipe;
    private final Model model;

    private RandomRunsTest(int seed) {
        random = new Random(seed);
        run = "run " + seed + ": ";
        int room = random.nextInt(8) == 0 ? odd() : random.nextInt(15) - 1;
        pipe = new FilterPipe(room);
        model = new Model(room);
    }

    public static void main(String[] args) {
        for (int seed = 0; seed < RUNS && Check.wrongSoFar() < 20; seed++) {
            RandomRunsTest test = new RandomRunsTest(seed);
            test.calls();
        }
        everyHalfPower();
        Check.end();
    }

    /** All responses of all half-power sections: few enough to look at each. */
    private static void everyHalfPower() {
        for (int k = 0; k <= 97; k++) {
            FilterPipe pipe = new FilterPipe(1);
            Model model = new Model(1);
            for (boolean high : new boolean[] {false, true}) {
                Check.due("halfPower(" + k + ", " + high + ")", pipe.halfPower(k, high), model.halfPower(k, high));
            }
            for (int angle = -1; angle <= 97; angle++) {
                Check.due("k " + k + ": response(0, " + angle + ")", pipe.response(0, angle), model.response(0, angle));
                Check.due("k " + k + ": response(1, " + angle + ")", pipe.response(1, angle), model.response(1, angle));
            }
        }
    }

    private void calls() {
        int building = random.nextInt(14);
        for (int i = 0; i < building; i++) {
            buildingCall();
        }
        if (random.nextInt(50) > 0) {
            due("start()", pipe.start(), model.start());
        }
        int running = 20 + random.nextInt(200);
        int style = random.nextInt(4);
        for (int i = 0; i < running; i++) {
            runningCall(style);
        }
        lookAtSink();
    }

    private void due(String call, long got, long want) {
        Check.due(run + call, got, want);
    }

    private void due(String call, boolean got, boolean want) {
        Check.due(run + call, got, want);
    }

    private int odd() {
        return ODD[random.nextInt(ODD.length)];
    }

    /** Mostly from low to high, now and then just or far beyond. */
    private int about(int low, int high) {
        int kind = random.nextInt(40);
        if (kind == 0) {
            return odd();
        }
        if (kind == 1) {
            return random.nextBoolean() ? low - 1 : high + 1;
        }
        if (kind < 8) {
            return random.nextBoolean() ? low : high;
        }
        return low + random.nextInt(high - low + 1);
    }

    private void buildingCall() {
        switch (random.nextInt(8)) {
            case 0: sectionCall(); break;
            case 1: halfPowerCall(); break;
            case 2: gainCall(); break;
            case 3: case 4: windowCall(); break;
            case 5: resampleCall(); break;
            case 6: formatCall(); break;
            default: responseCall();
        }
    }

    private void sectionCall() {
        int b0 = about(-32768, 32767);
        int b1 = about(-32768, 32767);
        int b2 = about(-32768, 32767);
        int a2 = about(-16383, 16383);
        int bound = Math.max(1, Math.min(32768, 16384 + a2));
        int a1 = about(1 - bound, bound - 1);
        String call = "section(" + b0 + ", " + b1 + ", " + b2 + ", " + a1 + ", " + a2 + ")";
        due(call, pipe.section(b0, b1, b2, a1, a2), model.section(b0, b1, b2, a1, a2));
    }

    private void halfPowerCall() {
        int k = about(1, 96);
        boolean high = random.nextBoolean();
        due("halfPower(" + k + ", " + high + ")", pipe.halfPower(k, high), model.halfPower(k, high));
    }

    private void gainCall() {
        int g = about(-1024, 1024);
        due("gain(" + g + ")", pipe.gain(g), model.gain(g));
    }

    private void windowCall() {
        int kind = about(0, 2);
        int length = about(1, 8);
        due("window(" + kind + ", " + length + ")", pipe.window(kind, length), model.window(kind, length));
    }

    private void resampleCall() {
        int up = about(1, 4);
        int down = about(1, 4);
        due("resample(" + up + ", " + down + ")", pipe.resample(up, down), model.resample(up, down));
    }

    private void formatCall() {
        int bits = random.nextInt(8) == 0 ? about(0, 40) : 8 + 8 * random.nextInt(4);
        boolean high = random.nextBoolean();
        boolean out = random.nextBoolean();
        due("format(" + bits + ", " + high + ", " + out + ")", pipe.format(bits, high, out), model.format(bits, high, out));
    }

    private void responseCall() {
        int at = about(0, 4);
        int k = about(0, 96);
        due("response(" + at + ", " + k + ")", pipe.response(at, k), model.response(at, k));
    }

    private void runningCall(int style) {
        int kind = random.nextInt(100);
        if (kind < 25) {
            bytesCall();
        } else if (kind < 45) {
            int n = about(0, style == 0 ? 2 : 30);
            due("produce(" + n + ")", pipe.produce(n), model.produce(n));
        } else if (kind < 65) {
            int n = about(0, style == 1 ? 2 : 30);
            due("consume(" + n + ")", pipe.consume(n), model.consume(n));
        } else if (kind < 75) {
            int where = about(0, 3);
            due("waiting(" + where + ")", pipe.waiting(where), model.waiting(where));
        } else if (kind < 80) {
            int i = about(0, 200);
            due("sinkByte(" + i + ")", pipe.sinkByte(i), model.sinkByte(i));
        } else if (kind < 86) {
            int f = about(0, 4);
            due("power(" + f + ")", pipe.power(f), model.power(f));
        } else if (kind < 91) {
            due("state()", pipe.state(), model.state());
        } else {
            rareCall(style);
        }
    }

    private void bytesCall() {
        int count = random.nextInt(4) > 0 ? 4 : about(1, 4);
        int[] words = {0, -1, 0x80808080, 0x7f7f7f7f, 0x7fffffff, 0x80000000, 0xff80ff80, 0xff7fff7f, 0x00ff00ff};
        int word = random.nextInt(3) == 0 ? words[random.nextInt(words.length)] : random.nextInt();
        due("bytes(" + count + ", " + word + ")", pipe.bytes(count, word), model.bytes(count, word));
    }

    private void rareCall(int style) {
        int kind = random.nextInt(12);
        if (kind < 2) {
            buildingCall();
        } else if (kind == 2) {
            due("start()", pipe.start(), model.start());
        } else if (kind == 3 && random.nextBoolean()) {
            due("restart()", pipe.restart(), model.restart());
        } else if (kind == 4 && style < 3) {
            due("close()", pipe.close(), model.close());
        } else if (kind == 5 && style == 2) {
            boolean producer = random.nextBoolean();
            due("interrupt(" + producer + ")", pipe.interrupt(producer), model.interrupt(producer));
        } else {
            responseCall();
        }
    }

    private void lookAtSink() {
        if (random.nextBoolean()) {
            due("close()", pipe.close(), model.close());
        }
        for (int i = 0; i < 90; i++) {
            due("produce(40)", pipe.produce(40), model.produce(40));
            due("consume(40)", pipe.consume(40), model.consume(40));
        }
        due("state()", pipe.state(), model.state());
        for (int where = 0; where < 4; where++) {
            due("waiting(" + where + ")", pipe.waiting(where), model.waiting(where));
        }
        for (int f = 0; f < 5; f++) {
            due("power(" + f + ")", pipe.power(f), model.power(f));
        }
        int size = 4 * model.waiting(3) + 5;
        for (int i = 0; i < 80; i++) {
            int at = random.nextInt(size);
            due("sinkByte(" + at + ")", pipe.sinkByte(at), model.sinkByte(at));
        }
    }
}
