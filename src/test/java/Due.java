/** Counts and prints the answers that are not the ones that are due; one test is one run of the machine. */
final class Due {
    private static int asked = 0;
    private static int wrong = 0;

    private Due() {
    }

    static void is(int promise, String call, long got, long want) {
        asked++;
        if (got != want) {
            wrong++;
            System.out.println("promise " + promise + ": " + call + " answered " + got + ", due is " + want);
        }
    }

    /** A call that told a fraction. */
    static void told(int promise, String call, int got, LogsAfloat log, long upper, long lower) {
        is(promise, call, got, 1);
        is(promise, call + ", upper()", log.upper(), upper);
        is(promise, call + ", lower()", log.lower(), lower);
    }

    /** A call that is refused with a finding. */
    static void finds(int promise, String call, int got, LogsAfloat log, int finding) {
        is(promise, call, got, LogsAfloat.FINDING);
        is(promise, call + ", finding()", log.finding(), finding);
    }

    static void yes(String what, boolean holds) {
        asked++;
        if (!holds) {
            wrong++;
            System.out.println(what);
        }
    }

    static boolean tooManyWrong() {
        return wrong > 20;
    }

    static void end() {
        System.out.println(asked + " answers asked, " + wrong + " wrong");
        if (wrong != 0 || asked == 0) {
            System.exit(1);
        }
    }
}
