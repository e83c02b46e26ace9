/** Runs all tests of the project; ends with exit code 1 if an answer was not as due. */
public final class AllTests {
    private static final Class<?>[] TESTS = {
        KindsTest.class, StaysTest.class, DaysTest.class, OffersTest.class, UndoTest.class, DatesTest.class,
        NightsTest.class, ReportsTest.class,
        Section01DatesTest.class, Section02KindsTest.class, Section03StaysTest.class, Section04RoomsTest.class,
        Section05SeasonsTest.class, Section06TaxesTest.class, Section07BooksTest.class, Section08DaysTest.class,
        Section09GuestsTest.class, Section10OffersTest.class, Section11GroupsTest.class,
        Section12HousekeepersTest.class, Section13ChangesTest.class, Section13UndoTest.class,
        Promises01To06EdgesTest.class, Promises07To10EdgesTest.class, Promises11To15EdgesTest.class,
        Promises16To22EdgesTest.class, Promises23To33EdgesTest.class, Promises34To45EdgesTest.class,
    };
    /** The tests need some five seconds; a program in which a loop has no end must not hold them for ever. */
    private static final int MOST_SECONDS = 180;

    private AllTests() {
    }

    public static void main(String[] arguments) throws Exception {
        endInTime();
        FaceTest.run();
        LanguageTest.run();
        ReadmeTest.run();
        for (Class<?> tests : TESTS) {
            Tests.run(tests);
        }
        NamesTest.run();
        SentencesTest.run();
        RandomRunsTest.run();
        System.out.println(Tests.RAN.size() + " tests; " + Check.passed + " answers as due, " + Check.failed
                + " not as due");
        if (Check.failed > 0 || Check.passed == 0) {
            System.exit(1);
        }
    }

    private static void endInTime() {
        Thread watch = new Thread(() -> {
            try {
                Thread.sleep(MOST_SECONDS * 1000L);
            } catch (InterruptedException e) {
                return;
            }
            System.out.println(Check.part() + ": not done after " + MOST_SECONDS + " seconds");
            System.out.flush();
            Runtime.getRuntime().halt(1);
        });
        watch.setDaemon(true);
        watch.start();
    }
}
