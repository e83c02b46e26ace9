/** Runs all tests of the project; ends with exit code 1 if an answer was not as due. */
public final class AllTests {
    private AllTests() {
    }

    public static void main(String[] arguments) throws Exception {
        FaceTest.run();
        LanguageTest.run();
        KindsTest.run();
        StaysTest.run();
        DaysTest.run();
        OffersTest.run();
        UndoTest.run();
        DatesTest.run();
        NightsTest.run();
        ReportsTest.run();
        RandomRunsTest.run();
        System.out.println(Check.passed + " answers as due, " + Check.failed + " not as due");
        if (Check.failed > 0 || Check.passed == 0) {
            System.exit(1);
        }
    }
}
