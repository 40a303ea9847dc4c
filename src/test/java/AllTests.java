/** Runs every test of the project and ends with exit code 1 if one fails. */
final class AllTests {
    private AllTests() {
    }

    public static void main(String[] args) {
        RandomRuns.run();
        System.out.println(Check.closingLine());
        if (Check.failures() != 0) {
            System.exit(1);
        }
    }
}
