/** Runs every test of the project; ends with exit code 1 if one failed. */
public final class AllTests {
    private static final int PROMISES = 31;

    private AllTests() {
    }

    public static void main(String[] args) throws Exception {
        RowTests.run();
        TextTests.run();
        YearTests.run();
        ForetoldTests.run();
        AskTests.run();
        RowBounds.run();
        TextBounds.run();
        YearBounds.run();
        ForetoldBounds.run();
        AskBounds.run();
        RefusedTests.run();
        KeptTests.run();
        for (int promise = 1; promise <= PROMISES; promise++) {
            if (!Check.byPromise.containsKey(promise)) {
                Check.due(promise, "a test", 0, 1);
            }
        }
        FaceTests.run();
        LanguageTests.run(args.length > 0 ? args[0] : "src/main/java/OldNews.java");
        ReadmeTests.run(args.length > 1 ? args[1] : "README.md");
        ModelTest.run();
        System.out.println(Check.passed + " passed, " + Check.failed + " failed");
        if (Check.failed > 0) {
            System.exit(1);
        }
    }
}
