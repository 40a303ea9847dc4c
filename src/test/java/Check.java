/** Counts the answers that are due and those that are not. */
final class Check {
    private static final int MOST_SHOWN = 60;
    private static int passed;
    private static int failed;

    private Check() {
    }

    static void due(String what, long got, long want) {
        that(what + " answered " + got + ", due is " + want, got == want);
    }

    static void that(String what, boolean holds) {
        if (holds) {
            passed++;
            return;
        }
        failed++;
        if (failed <= MOST_SHOWN) {
            System.out.println("FAILED: " + what);
        }
    }

    static int failures() {
        return failed;
    }

    static String closingLine() {
        return passed + " passed, " + failed + " failed";
    }
}
