import java.io.IOException;
import java.nio.file.Files;
import java.nio.file.Path;
import java.util.List;
import java.util.regex.Matcher;
import java.util.regex.Pattern;

/**
 * Writes a test of the examples in README.md, so that they are compiled and run as they stand there. A block of methods
 * goes into the class as it is, another block becomes a method; what stands behind // is the answer that is due.
 */
public final class ReadmeExamples {
    private static final Pattern ASKED = Pattern.compile("(.+);\\s+// (.+)");

    private final StringBuilder methods = new StringBuilder();
    private final StringBuilder calls = new StringBuilder();
    private int blocks;

    public static void main(String[] args) throws IOException {
        List<String> readme = Files.readAllLines(Path.of("README.md"));
        ReadmeExamples examples = new ReadmeExamples();
        for (int i = 0; i < readme.size(); i++) {
            if (readme.get(i).equals("```java")) {
                int end = i + readme.subList(i, readme.size()).indexOf("```");
                examples.add(readme.subList(i + 1, end), i + 2);
            }
        }
        System.out.print(examples.test());
    }

    private void add(List<String> block, int firstLine) {
        if (block.get(0).startsWith("static ")) {
            methods.append(String.join("\n", block)).append('\n');
            return;
        }
        blocks++;
        calls.append("        block").append(blocks).append("();\n");
        methods.append("private static void block").append(blocks).append("() {\n");
        for (int i = 0; i < block.size(); i++) {
            methods.append(statement(block.get(i), firstLine + i)).append('\n');
        }
        methods.append("}\n");
    }

    private static String statement(String line, int number) {
        Matcher asked = ASKED.matcher(line);
        if (!asked.matches()) {
            return line;
        }
        String call = asked.group(1);
        String due = asked.group(2);
        String name = "\"line " + number + ": " + call.replace("\\", "\\\\").replace("\"", "\\\"") + "\", ";
        if (due.startsWith("throws ")) {
            return "DUE.throwsIt(" + name + due.substring(7) + ".class, () -> " + call + ");";
        }
        String compare = due.matches("[0-9]+\\.[0-9]+") ? "DUE.isReal(" : "DUE.is(";
        return compare + name + call + ", " + due + ");";
    }

    private String test() {
        return "public final class ReadmeShows {\n"
                + "private static final Due DUE = new Due(\"README.md\");\n"
                + "public static void main(String[] args) {\n" + calls + "DUE.end();\n}\n" + methods + "}\n";
    }
}
