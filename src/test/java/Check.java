/** Counts the answers that are due and those that are not. */
final class Check {
    private static final int MOST_SHOWN = 60;
    private static int passed;
    private static int failed;

    private Check() {
    }

    static void due(String what, long got, long want) {
        if (got == want) {
            passed++;
        } else {
            that(what + " answered " + got + ", due is " + want, false);
        }
    }

    static void that(String what, boolean holds) {
        if (holds) {
            passed++;
            return;
        }
        failed++;
        if (failed <= MOST_SHOWN) {
            System.out.println("FAILED: " + what);
        }
    }

    static int made() {
        return passed + failed;
    }

    static int failures() {
        return failed;
    }

    static String closingLine() {
        return passed + " passed, " + failed + " failed";
    }
}
