import java.io.IOException;
import java.nio.file.Files;
import java.nio.file.Path;
import java.util.ArrayList;
import java.util.HashSet;
import java.util.List;
import java.util.Set;

/** Each sentence of the document stands in sentences.txt with the tests that hold it, and these tests ran. */
final class SentencesTest {
    private static final Path DOCUMENT = Path.of("../shared/DOC.md");
    private static final Path LIST = Path.of("src/test/sentences.txt");
    private static final String INDENT = "    ";
    private static final String FREE = "free";

    private SentencesTest() {
    }

    static void run() throws IOException {
        Check.begin("the sentences of the document");
        List<String> due = sentences(Files.readAllLines(DOCUMENT));
        List<String> got = new ArrayList<>();
        List<String> lines = Files.readAllLines(LIST);
        Set<String> ran = new HashSet<>(Set.of(FREE));
        Tests.RAN.keySet().forEach(name -> ran.add(name.substring(name.indexOf('.') + 1)));
        boolean isBehindHead = false;
        for (int i = 0; i < lines.size(); i++) {
            String line = lines.get(i);
            isBehindHead |= line.startsWith("# ");
            if (line.startsWith(INDENT)) {
                for (String name : line.trim().split(" ")) {
                    Check.same("the test " + name + " ran", ran.contains(name), true);
                }
            } else if (isBehindHead && !line.isEmpty()) {
                got.add(line);
                boolean isHeld = line.startsWith("# ") || i + 1 < lines.size() && lines.get(i + 1).startsWith(INDENT);
                Check.same("tests are named for: " + line, isHeld, true);
            }
        }
        Check.same("the sentences of the list", got, due);
    }

    /** The document's headings, each with "# " ahead, and its sentences; but for the declarations of the calls. */
    private static List<String> sentences(List<String> page) {
        List<String> found = new ArrayList<>();
        StringBuilder paragraph = new StringBuilder();
        boolean isCode = false;
        String heading = "";
        for (String line : page) {
            boolean isFence = line.startsWith("```");
            boolean isHeading = line.matches("(#+|\\d+\\.) .*");
            if (isFence || isHeading || line.isBlank() || line.startsWith("- ")) {
                addSentences(paragraph, heading, found);
            }
            isCode ^= isFence;
            if (isHeading) {
                heading = "# " + line.replaceFirst("^#+ ", "").trim();
            } else if (!isFence && !isCode) {
                paragraph.append(paragraph.length() == 0 ? "" : " ").append(line.trim());
            }
        }
        addSentences(paragraph, heading, found);
        return found;
    }

    private static void addSentences(StringBuilder paragraph, String heading, List<String> found) {
        String text = paragraph.toString().replaceFirst("^`(HotelNights|int|long|double|float)[^`]*\\)[^`]*`: ", "");
        paragraph.setLength(0);
        if (text.isBlank()) {
            return;
        }
        if (!found.contains(heading)) {
            found.add(heading);
        }
        found.addAll(List.of(text.split("(?<=\\.)\\s+(?=[A-Z(])")));
    }
}
