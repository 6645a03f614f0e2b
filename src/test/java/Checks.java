/** Counts the answers that are not as due, and tells them. */
final class Checks {
    private static final int MOST_TOLD = 40;

    /** The call that was made last, for telling which answer was wrong. */
    static String lastCall = "";
    private static int wrong = 0;

    private Checks() {
    }

    static void due(String call, int got, int want) {
        if (got != want) {
            tell(call + " answered " + got + ", due is " + want);
        }
    }

    static void same(String what, String got, String want) {
        if (!got.equals(want)) {
            tell(what + ":\n  is  " + got + "\n  due " + want);
        }
    }

    static void tell(String fault) {
        wrong++;
        if (wrong <= MOST_TOLD) {
            System.out.println(fault);
        }
    }

    static boolean allRight() {
        return wrong == 0;
    }

    /** Ends the run of a test class: with exit code 1 if an answer was not as due. */
    static void end(String tests) {
        System.out.println(tests + ": " + (wrong == 0 ? "all as due" : wrong + " not as due"));
        if (wrong != 0) {
            System.exit(1);
        }
    }
}
