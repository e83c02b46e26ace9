import java.io.IOException;
import java.nio.file.Files;
import java.nio.file.Path;
import java.util.ArrayList;
import java.util.List;
import java.util.regex.Matcher;
import java.util.regex.Pattern;

/**
 * Prints a program, ReadmeRuns, of the Java lines that a page shows: each block is run for itself, and each call must
 * answer what is told behind it, up to a comma: a number, or "throws" and an exception.
 */
public final class ReadmeProgram {
    private static final Pattern LINE = Pattern.compile("(int \\w+ = )?(\\w+\\..*?);\\s*// ([^,]+).*");
    private static final String HEAD = """
            public final class ReadmeRuns {
                static int shown = 0;
                static int wrong = 0;

                static void due(String line, String got, String told) {
                    shown++;
                    if (!got.equals(told)) {
                        wrong++;
                        System.out.println("README.md: " + line + " gave " + got);
                    }
                }
            """;
    private static final String TAIL = """
                    System.out.println(shown + " calls of README.md, " + wrong + " not as told");
                    if (wrong > 0 || shown == 0) {
                        System.exit(1);
                    }
                }
            }
            """;

    private ReadmeProgram() {
    }

    public static void main(String[] arguments) throws IOException {
        List<List<String>> blocks = blocks(Files.readAllLines(Path.of(arguments[0])));
        System.out.println(HEAD);
        for (int i = 0; i < blocks.size(); i++) {
            System.out.println("    static void block" + i + "() {");
            blocks.get(i).forEach(line -> System.out.println(told(line)));
            System.out.println("    }\n");
        }
        System.out.println("    public static void main(String[] arguments) {");
        for (int i = 0; i < blocks.size(); i++) {
            System.out.println("        block" + i + "();");
        }
        System.out.print(TAIL);
    }

    /** The lines between "```java" and "```". */
    static List<List<String>> blocks(List<String> page) {
        List<List<String>> blocks = new ArrayList<>();
        boolean isInside = false;
        for (String line : page) {
            if (line.startsWith("```")) {
                isInside = line.equals("```java");
                if (isInside) {
                    blocks.add(new ArrayList<>());
                }
            } else if (isInside) {
                blocks.get(blocks.size() - 1).add(line);
            }
        }
        return blocks;
    }

    /** A line of the page as one or more lines of the program; one without an answer stays as it is. */
    private static String told(String line) {
        Matcher found = LINE.matcher(line);
        if (!found.matches()) {
            return "        " + line;
        }
        String quoted = "\"" + line.replace("\\", "\\\\").replace("\"", "\\\"") + "\"";
        String answer = found.group(3).trim();
        if (answer.startsWith("throws ")) {
            return String.format("""
                            String got%1$d = "no exception";
                            try {
                                %2$s;
                            } catch (RuntimeException e) {
                                got%1$d = "throws " + e.getClass().getSimpleName();
                            }
                            due(%3$s, got%1$d, "%4$s");""", next++, found.group(2), quoted, answer).indent(8);
        }
        String name = found.group(1) == null ? "" : found.group(1).split(" ")[1];
        String declared = name.isEmpty() ? "" : "        int " + name + " = " + found.group(2) + ";\n";
        String call = name.isEmpty() ? found.group(2) : name;
        return declared + "        due(" + quoted + ", String.valueOf(" + call + "), \"" + answer + "\");";
    }

    private static int next = 0;
}
