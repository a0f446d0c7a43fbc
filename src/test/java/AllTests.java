/** Runs all tests of the project; the last line it prints is 'N passed, N failed'. */
public final class AllTests {
    private AllTests() {
    }

    public static void main(String[] args) {
        Tests tests = new Tests();
        FaceTests.addTo(tests);
        LanguageTests.addTo(tests);
        CopyTests.addTo(tests);
        GenerationTests.addTo(tests);
        TellingTests.addTo(tests);
        RotaTests.addTo(tests);
        StoreEdgeTests.addTo(tests);
        GenerationEdgeTests.addTo(tests);
        TellingEdgeTests.addTo(tests);
        RotaEdgeTests.addTo(tests);
        RefusalTests.addTo(tests);
        LongUseTests.addTo(tests);
        ReadmeTests.addTo(tests);
        ModelTests.addTo(tests);
        System.out.println(tests.summary());
        if (tests.failed() != 0) {
            System.exit(1);
        }
    }
}
