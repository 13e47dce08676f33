import java.io.IOException;
import java.nio.charset.StandardCharsets;
import java.nio.file.Files;
import java.nio.file.Path;
import java.util.ArrayList;
import java.util.List;
import java.util.regex.Matcher;
import java.util.regex.Pattern;

/** Makes a test of README.md: its examples in Java, each answer in a comment being the one that is due. */
public final class ReadmeExamples {
    private static final String FENCE = "```";
    private static final Pattern ANSWERED = Pattern.compile("(.+);\\s*// -> (.+)");
    private static final Pattern THROWING = Pattern.compile("(.+);\\s*// throws (\\w+)");

    private final StringBuilder helpers = new StringBuilder();
    private final StringBuilder examples = new StringBuilder();
    private int count = 0;
    private int answers = 0;

    public static void main(String[] args) throws IOException {
        ReadmeExamples made = new ReadmeExamples();
        List<String> block = null;
        for (String line : Files.readAllLines(Path.of(args[0]), StandardCharsets.UTF_8)) {
            if (block == null) {
                block = line.equals(FENCE + "java") ? new ArrayList<>() : null;
            } else if (line.equals(FENCE)) {
                made.add(block);
                block = null;
            } else {
                block.add(line);
            }
        }
        if (made.answers == 0) {
            System.out.println("README.md has no example with an answer");
            System.exit(1);
        }
        Files.writeString(Path.of(args[1]), made.source());
    }

    private void add(List<String> block) {
        if (!block.isEmpty() && block.get(0).startsWith("static ")) {
            block.forEach(line -> helpers.append("    ").append(line).append('\n'));
            return;
        }
        examples.append("        {\n");
        block.forEach(line -> examples.append("            ").append(checked(line)).append('\n'));
        examples.append("        }\n");
        count++;
    }

    private String checked(String line) {
        Matcher answered = ANSWERED.matcher(line);
        Matcher throwing = THROWING.matcher(line);
        String what = "\"example " + (count + 1) + ": " + line.replace("\\", "\\\\").replace("\"", "\\\"") + "\"";
        if (answered.matches()) {
            answers++;
            return "House.due(" + what + ", " + answered.group(1) + ", " + answered.group(2) + ");";
        }
        if (throwing.matches()) {
            answers++;
            return "try { " + throwing.group(1) + "; House.due(" + what + ", \"nothing\", \"thrown\"); } catch ("
                    + throwing.group(2) + " e) { House.due(" + what + ", 0, 0); }";
        }
        return line;
    }

    private String source() {
        return "public final class Examples {\n" + helpers + "    public static void main(String[] args) {\n"
                + examples + "        House.end();\n    }\n}\n";
    }
}
