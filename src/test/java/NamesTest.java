/** Each promise and each section has tests of its boundary cases, and one finds them by their names. */
final class NamesTest {
    private static final int PROMISES = 45;
    private static final int SECTIONS = 13;

    private NamesTest() {
    }

    static void run() {
        Check.begin("the names of the tests");
        for (int number = 1; number <= PROMISES; number++) {
            hasATest("Edges", String.format("promise%02d", number));
            hasATest("", String.format("promise%02d", number));
        }
        for (int number = 1; number <= SECTIONS; number++) {
            hasATest("Section", String.format("section%02d", number));
        }
    }

    private static void hasATest(String wordOfTheClass, String start) {
        int found = 0;
        for (String name : Tests.RAN.keySet()) {
            String[] parts = name.split("\\.");
            if (parts[0].contains(wordOfTheClass) && parts[1].startsWith(start)) {
                found++;
            }
        }
        Check.same("tests of " + start + " in classes with '" + wordOfTheClass + "'", found > 0, true);
    }
}
