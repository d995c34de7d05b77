/** Compares answers, prints each one that is not due, and ends a test. */
final class Check {
    private static int compared = 0;
    private static int wrong = 0;

    private Check() {
    }

    static void due(String what, long got, long want) {
        compared++;
        if (got != want) {
            wrong++;
            System.out.println(what + " answered " + got + ", due is " + want);
        }
    }

    static void due(String what, boolean got, boolean want) {
        due(what, got ? 1 : 0, want ? 1 : 0);
    }

    static void due(String what, int[] got, int... want) {
        due(what + ": how many", got.length, want.length);
        for (int i = 0; i < Math.min(got.length, want.length); i++) {
            due(what + ": number " + i, got[i], want[i]);
        }
    }

    static int wrongSoFar() {
        return wrong;
    }

    static void end() {
        System.out.println(compared + " answers compared, " + wrong + " of them not as due");
        if (wrong > 0 || compared == 0) {
            System.exit(1);
        }
    }
}
