import java.util.List;

/** Compares answers, prints each one that is not due, and ends a test. */
final class Check {
    private static int compared = 0;
    private static int wrong = 0;
    private static String sentence = "";
    private static int comparedBefore = 0;

    private Check() {
    }

    /** The sentence of the document that the next answers are about: one without an answer would test nothing. */
    static void about(String text) {
        endSentence();
        sentence = text;
        comparedBefore = compared;
    }

    private static void endSentence() {
        if (!sentence.isEmpty() && compared == comparedBefore) {
            wrong++;
            System.out.println("[" + sentence + "] nothing was compared");
        }
    }

    private static void report(String text) {
        wrong++;
        System.out.println(sentence.isEmpty() ? text : "[" + sentence + "] " + text);
    }

    static void due(String what, long got, long want) {
        compared++;
        if (got != want) {
            report(what + " answered " + got + ", due is " + want);
        }
    }

    static void due(String what, boolean got, boolean want) {
        due(what, got ? 1 : 0, want ? 1 : 0);
    }

    static void due(String what, int[] got, int... want) {
        due(what + ": how many", got.length, want.length);
        for (int i = 0; i < Math.min(got.length, want.length); i++) {
            due(what + ": number " + i, got[i], want[i]);
        }
    }

    static void same(String what, List<String> got, List<String> want) {
        compared++;
        for (int i = 0; i < Math.max(got.size(), want.size()); i++) {
            String one = i < got.size() ? got.get(i) : "nothing";
            String other = i < want.size() ? want.get(i) : "nothing";
            if (!one.equals(other)) {
                report(what + ": " + one + ", due is " + other);
                return;
            }
        }
    }

    static int wrongSoFar() {
        return wrong;
    }

    static void end() {
        endSentence();
        System.out.println(compared + " answers compared, " + wrong + " of them not as due");
        if (wrong > 0 || compared == 0) {
            System.exit(1);
        }
    }
}
