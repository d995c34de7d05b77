import java.util.ArrayList;
import java.util.List;

/**
 * Two pipes with the same calls behind them: one gets a call that must change nothing. Then both must look alike and
 * go on alike, whatever comes next; so a change shows also where no call tells it at once.
 */
final class Twins {
    interface Calls {
        void on(FilterPipe pipe);
    }

    interface Call {
        long on(FilterPipe pipe);
    }

    private static final int WAYS = 6;
    private static final int[] WORDS = {0x12f4a680, 0x7fff8001, 0xffff7f80, 0x40c0b1d2};

    private final FilterPipe pipe;
    private final List<String> answers = new ArrayList<>();

    private Twins(FilterPipe pipe) {
        this.pipe = pipe;
    }

    static long of(boolean answer) {
        return answer ? 1 : 0;
    }

    /** The call answers what is due, and changes nothing. */
    static void unchanged(String what, int room, Calls before, Call call, long due) {
        alike(what, room, pipe -> {
            before.on(pipe);
            Check.due(what, call.on(pipe), due);
        }, before);
    }

    /** Both runs of calls lead to pipes that look and go on alike. */
    static void alike(String what, int room, Calls one, Calls other) {
        for (int way = 0; way < WAYS; way++) {
            FilterPipe got = new FilterPipe(room);
            one.on(got);
            FilterPipe want = new FilterPipe(room);
            other.on(want);
            Check.same(what + ", then going on in way " + way, goOn(got, way), goOn(want, way));
        }
    }

    /** The call is refused, with false or 0, and changes nothing. */
    static void refused(String what, int room, Calls before, Call call) {
        unchanged(what, room, before, call, 0);
    }

    private static List<String> goOn(FilterPipe pipe, int way) {
        Twins one = new Twins(pipe);
        // In way 0 nothing is asked before the steps, so that a change by a call that asks is not made in both.
        if (way > 0) {
            one.look();
        }
        switch (way) {
            case 2: one.buildOn(); break;
            case 3: one.note("restart()", of(pipe.restart())); break;
            case 4: one.note("interrupt(false)", of(pipe.interrupt(false))); break;
            case 5: one.note("close()", of(pipe.close())); break;
            default:
        }
        // One that runs is not started again: a refused start() that changed something would do so in both.
        if (pipe.state() == 0) {
            one.note("start()", of(pipe.start()));
        }
        one.feed();
        if (way > 0) {
            one.look();
        }
        one.drain();
        one.look();
        return one.answers;
    }

    private void note(String call, long answer) {
        answers.add(call + " answered " + answer);
    }

    private void buildOn() {
        note("resample(3, 2)", of(pipe.resample(3, 2)));
        note("section(..)", of(pipe.section(9000, -5000, 3000, -8000, 4000)));
        note("resample(2, 1)", of(pipe.resample(2, 1)));
        note("gain(300)", of(pipe.gain(300)));
        note("window(1, 3)", of(pipe.window(1, 3)));
        note("halfPower(7, true)", of(pipe.halfPower(7, true)));
    }

    private void feed() {
        for (int word : WORDS) {
            note("bytes(4, " + word + ")", pipe.bytes(4, word));
            note("produce(3)", pipe.produce(3));
            note("consume(1)", pipe.consume(1));
        }
        note("bytes(1, 5)", pipe.bytes(1, 5));
    }

    private void drain() {
        note("close()", of(pipe.close()));
        for (int i = 0; i < 40; i++) {
            note("produce(50)", pipe.produce(50));
            note("consume(50)", pipe.consume(50));
        }
    }

    private void look() {
        note("state()", pipe.state());
        for (int where = 0; where < 4; where++) {
            note("waiting(" + where + ")", pipe.waiting(where));
        }
        for (int at = 0; at < 5; at++) {
            note("response(" + at + ", 3)", pipe.response(at, 3));
            note("response(" + at + ", 40)", pipe.response(at, 40));
        }
        for (int f = 0; f < 5; f++) {
            note("power(" + f + ")", pipe.power(f));
        }
        for (int i = 0; i < 50; i++) {
            note("sinkByte(" + i + ")", pipe.sinkByte(i));
        }
    }
}
