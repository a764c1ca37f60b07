/** Runs every test of the project; ends with 1 if one fails. */
public final class AllTests {
    private AllTests() {
    }

    public static void main(String[] args) {
        TellingTests.runAll();
        TextTests.runAll();
        SecondTests.runAll();
        TrialTests.runAll();
        TableTests.runAll();
        EdgeTests.runAll();
        ModelTests.runAll();
        WrongTests.runAll();
        LanguageTests.runAll();
        DepthTests.runAll();
        ReadmeTests.runAll();
        System.out.println(Check.passed + " passed, " + Check.failed + " failed");
        if (Check.failed != 0) {
            System.exit(1);
        }
    }
}
