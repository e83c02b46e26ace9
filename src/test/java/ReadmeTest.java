import java.io.IOException;
import java.lang.reflect.Method;
import java.lang.reflect.Modifier;
import java.nio.file.Files;
import java.nio.file.Path;
import java.util.ArrayList;
import java.util.List;
import java.util.Map;
import java.util.TreeMap;
import java.util.regex.Matcher;
import java.util.regex.Pattern;

/** README.md: its tables tell each call as the document does, its examples show each one, and its names are right. */
final class ReadmeTest {
    private static final Path PAGE = Path.of("README.md");
    private static final Path DOCUMENT = Path.of("../shared/DOC.md");
    private static final Path TESTS = Path.of("src/test/java");
    private static final Pattern FACE = Pattern.compile("    public ((?:int|long|double|float) \\w+\\(.*?\\))(.*);");
    private static final Pattern ROW = Pattern.compile("\\| `(.*?\\))` \\|.*\\|(.*)\\|");
    private static final Pattern CONSTANT = Pattern.compile("`([A-Z]+)` \\((-?\\d)");
    private static final Map<String, String> LETTERS = Map.of("IndexOutOfBoundsException", "I",
            "IllegalArgumentException", "A", "IllegalStateException", "S");

    private ReadmeTest() {
    }

    static void run() throws IOException, ReflectiveOperationException {
        Check.begin("README.md");
        List<String> page = Files.readAllLines(PAGE);
        Check.same("the calls of its tables, in the document's order", callsOfTheTables(page), callsOfTheDocument());
        examplesShowEachCall(page);
        constants(page);
        tests(page);
    }

    /** Each call, and the letters of what it throws. */
    private static List<String> callsOfTheTables(List<String> page) {
        List<String> calls = new ArrayList<>();
        for (String line : page) {
            Matcher row = ROW.matcher(line);
            if (row.matches()) {
                calls.add(row.group(1) + " " + row.group(2).replaceAll(":.*", "").trim());
            }
        }
        return calls;
    }

    private static List<String> callsOfTheDocument() throws IOException {
        List<String> calls = new ArrayList<>();
        for (String line : Files.readAllLines(DOCUMENT)) {
            Matcher call = FACE.matcher(line);
            if (call.matches()) {
                List<String> letters = new ArrayList<>();
                for (String name : call.group(2).replace(" throws ", "").split(", ")) {
                    letters.add(LETTERS.getOrDefault(name, ""));
                }
                calls.add(call.group(1) + " " + String.join(", ", letters));
            }
        }
        return calls;
    }

    private static void examplesShowEachCall(List<String> page) {
        Map<String, Integer> shown = new TreeMap<>();
        for (List<String> block : ReadmeProgram.blocks(page)) {
            Check.same("a block begins with a new hotel", block.get(0), "HotelNights hotel = new HotelNights();");
            for (String line : block) {
                Matcher call = Pattern.compile(".*hotel\\.(\\w+)\\(.*\\);\\s+// .+").matcher(line);
                boolean isCall = call.matches();
                Check.same("an answer is told: " + line, isCall || line.equals(block.get(0)), true);
                if (isCall) {
                    shown.merge(call.group(1), 1, Integer::sum);
                }
            }
        }
        for (Method method : HotelNights.class.getDeclaredMethods()) {
            if (Modifier.isPublic(method.getModifiers())) {
                Check.same("an example shows " + method.getName(), shown.containsKey(method.getName()), true);
            }
        }
    }

    private static void constants(List<String> page) throws ReflectiveOperationException {
        int found = 0;
        Matcher constant = CONSTANT.matcher(String.join("\n", page));
        while (constant.find()) {
            int got = HotelNights.class.getField(constant.group(1)).getInt(null);
            Check.same(constant.group(1), got, Integer.parseInt(constant.group(2)));
            found++;
        }
        Check.same("constants", found, 10);
    }

    private static void tests(List<String> page) {
        int found = 0;
        Matcher name = Pattern.compile("`(\\w+(?:Test|Runs|Model|Tests|Program))`").matcher(String.join("\n", page));
        while (name.find()) {
            boolean isMade = name.group(1).equals("ReadmeRuns");
            Check.same("the file of " + name.group(1), isMade || Files.exists(TESTS.resolve(name.group(1) + ".java")),
                    true);
            found++;
        }
        Check.same("names of tests", found > 10, true);
    }
}
