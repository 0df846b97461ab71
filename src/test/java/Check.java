/** Counts the answers that are not as due, and prints them. */
final class Check {
    private static int wrong = 0;
    private static int looked = 0;

    interface Call {
        void run();
    }

    private Check() {
    }

    static void due(String call, long got, long want) {
        looked++;
        if (got != want) {
            tell(call + " answered " + got + ", due is " + want);
        }
    }

    /** By bits, but 0.0 and -0.0 are one number here, as they are for the document. */
    static void due(String call, double got, double want) {
        looked++;
        if (!(got == want)) {
            tell(call + " answered " + got + ", due is " + want);
        }
    }

    static void due(String call, boolean got, boolean want) {
        due(call, got ? 1L : 0L, want ? 1L : 0L);
    }

    static void due(String call, String got, String want) {
        looked++;
        if (!got.equals(want)) {
            tell(call + " answered " + got + ", due is " + want);
        }
    }

    static void refuses(String call, Class<? extends RuntimeException> kind, Call made) {
        due(call + " throws", thrownBy(made), kind.getSimpleName());
    }

    static void fine(String call, Call made) {
        due(call + " throws", thrownBy(made), "nothing");
    }

    static String thrownBy(Call made) {
        try {
            made.run();
            return "nothing";
        } catch (RuntimeException e) {
            return e.getClass().getSimpleName();
        }
    }

    static int wrong() {
        return wrong;
    }

    static void tell(String what) {
        wrong++;
        if (wrong <= 50) {
            System.out.println(what);
        }
    }

    static void end(String test) {
        System.out.println(test + ": " + looked + " answers, " + wrong + " not as due");
        if (wrong != 0 || looked == 0) {
            System.exit(1);
        }
    }
}
