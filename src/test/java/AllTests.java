import java.nio.file.Path;

/** Runs every test of the project and ends with exit code 1 if one fails. */
final class AllTests {
    private AllTests() {
    }

    /** The arguments are the paths of the program's source, of its document and of its README.md. */
    public static void main(String[] args) {
        String source = args.length > 0 ? args[0] : "src/main/java/SmallestSpeed.java";
        String document = args.length > 1 ? args[1] : "../shared/DOC.md";
        String readme = args.length > 2 ? args[2] : "README.md";
        PromiseTests.run();
        EdgeTests.run(Path.of(document));
        LanguageTests.run(Path.of(source));
        ReadmeTests.run(Path.of(readme));
        RoomTests.run();
        RandomRuns.run();
        System.out.println(Check.closingLine());
        if (Check.failures() != 0) {
            System.exit(1);
        }
    }
}
