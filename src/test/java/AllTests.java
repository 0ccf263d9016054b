/** Runs all tests of the project; ends with exit code 1 if one fails. */
public final class AllTests {
    public static void main(String[] args) throws Exception {
        Check check = new Check();
        FaceTests.run(check);
        StreetTests.run(check);
        LengthTests.run(check);
        HelperTests.run(check);
        ListTests.run(check);
        ImageTests.run(check);
        StreetEdges.run(check);
        LengthEdges.run(check);
        CallEdges.run(check);
        HelperEdges.run(check);
        ListEdges.run(check);
        ImageEdges.run(check);
        TermsTests.run(check);
        ReadmeTests.run(check);
        GridTests.run(check);
        ModelTests.run(check);
        System.out.println("own: " + check.passed() + " passed, " + check.failed() + " failed");
        if (check.failed() > 0) {
            System.exit(1);
        }
    }
}
