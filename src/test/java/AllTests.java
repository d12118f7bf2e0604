/** Runs every test of the project. */
public final class AllTests {
    public static void main(String[] args) {
        Check check = new Check();
        PromiseTests.runAll(check);
        CreditSentenceTests.runAll(check);
        ProgramSentenceTests.runAll(check);
        EdgeTests.runAll(check);
        FaceTests.runAll(check);
        ReadmeTests.runAll(check);
        TextTests.runAll(check);
        ModelTests.runAll(check);
        check.finish();
    }
}
