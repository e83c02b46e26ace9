import java.nio.file.Files;
import java.nio.file.Path;
import java.util.List;

/** Some rules of ../shared/LANGUAGE.md that can be seen in the text of the program. */
final class LanguageTest {
    private static final Path PROGRAM = Path.of("src/main/java/HotelNights.java");
    private static final List<String> RULED_OUT = List.of("->", "::", "synchronized", "finally", "assert ", "catch",
            "native ", "volatile ", "transient ", "static {", "Exact(", "Object", "System.out", "System.nano",
            "System.current", "Random", "Thread", "\" +", "+ \"", "extends ", "instanceof");

    private LanguageTest() {
    }

    static void run() throws Exception {
        String code = withoutComments(Files.readString(PROGRAM));
        Check.begin("the language");
        for (String words : RULED_OUT) {
            Check.same("the program has '" + words + "'", code.contains(words), false);
        }
        for (String line : code.split("\n")) {
            if (line.startsWith("import ") || line.startsWith("package ")) {
                Check.same("import", line, "import java.util.Arrays;");
            }
            Check.same("length of a line", line.length() <= 120, true);
        }
        Check.same("classes are about twelve", code.split("\\bclass ").length - 1 <= 12, true);
    }

    private static String withoutComments(String text) {
        return text.replaceAll("(?s)/\\*.*?\\*/", "").replaceAll("//[^\n]*", "");
    }
}
