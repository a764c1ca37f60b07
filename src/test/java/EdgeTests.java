/** Every sentence of the document that names a boundary case has a test of its own here. */
final class EdgeTests {
    private EdgeTests() {
    }

    static void runAll() {
        EdgeTellingTests.runAll();
        EdgeTextTests.runAll();
        EdgeQuestionTests.runAll();
        EdgeLinkTests.runAll();
        EdgeSecondTests.runAll();
        EdgeStepTests.runAll();
        EdgeTrialTests.runAll();
        EdgeTableTests.runAll();
    }
}
