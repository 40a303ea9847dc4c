import java.nio.file.Path;

/** Runs every test of the project and ends with exit code 1 if one fails. */
final class AllTests {
    private AllTests() {
    }

    /** The first argument is the path of the program's source, the second one that of its document. */
    public static void main(String[] args) {
        String source = args.length > 0 ? args[0] : "src/main/java/SmallestSpeed.java";
        String document = args.length > 1 ? args[1] : "../shared/DOC.md";
        PromiseTests.run();
        EdgeTests.run(Path.of(document));
        LanguageTests.run(Path.of(source));
        RoomTests.run();
        RandomRuns.run();
        System.out.println(Check.closingLine());
        if (Check.failures() != 0) {
            System.exit(1);
        }
    }
}
