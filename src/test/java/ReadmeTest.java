import java.io.IOException;
import java.nio.file.Files;
import java.nio.file.Path;
import java.util.ArrayList;
import java.util.List;
import java.util.regex.Matcher;
import java.util.regex.Pattern;

/**
 * README.md shows what the class answers: its lines of Java are compiled and run as they stand there, one
 * behind the other, and the answer of each call is compared with the one behind it.
 */
public final class ReadmeTest {

    private static final String CLASSES = "build/main:build/test";
    private static final Path DIRECTORY = Path.of("build", "readme");

    /** A call, kept in a variable or not, and its answer, behind which a remark may stand. */
    private static final Pattern SHOWN = Pattern.compile(
            "(?<type>\\w+ (?<name>\\w+) = )?(?<call>desk\\.\\w+\\(.*\\));\\s*// (?<answer>[^:]*)(: .*)?");

    public static void main(String[] args) throws Exception {
        Check.part("README.md");
        for (String command : block("sh")) {
            if (command.startsWith("javac ")) {
                Check.is(command, exitCode("sh", "-c", command), 0);
            }
        }
        Files.createDirectories(DIRECTORY);
        Path source = DIRECTORY.resolve("ReadmeRun.java");
        Files.write(source, program(block("java")));
        Check.is("the lines compile", exitCode("javac", "-encoding", "UTF-8", "-cp", CLASSES, "-d",
                DIRECTORY.toString(), source.toString()), 0);
        Check.is("the answers are right", exitCode("java", "-cp", CLASSES + ":" + DIRECTORY, "ReadmeRun"), 0);
        Check.end();
    }

    /** The lines of all blocks of a language. */
    private static List<String> block(String language) throws IOException {
        List<String> lines = new ArrayList<>();
        boolean isIn = false;
        for (String line : Files.readAllLines(Path.of("README.md"))) {
            if (line.startsWith("```")) {
                isIn = line.equals("```" + language);
            } else if (isIn) {
                lines.add(line);
            }
        }
        Check.is("lines of " + language, lines.isEmpty(), false);
        return lines;
    }

    private static List<String> program(List<String> lines) {
        List<String> program = new ArrayList<>();
        program.add("final class ReadmeRun {");
        program.add("    public static void main(String[] args) {");
        for (String line : lines) {
            program.add(compared(line));
        }
        program.add("        Check.end();");
        program.add("    }");
        program.add("}");
        return program;
    }

    /** The line, with what compares its answer; lines inside a loop show none. */
    private static String compared(String line) {
        Matcher shown = SHOWN.matcher(line);
        if (!shown.matches()) {
            boolean isCall = line.matches("\\S.*\\bdesk\\..*");
            Check.is("an answer is shown: " + line, isCall, false);
            return line;
        }
        String call = shown.group("call");
        String answer = shown.group("answer").trim();
        if (answer.startsWith("throws ")) {
            String exception = "java.lang." + answer.substring("throws ".length());
            return "Check.is(" + quoted(call) + ", Check.outcome(() -> " + call + "), \"" + exception + "\");";
        }
        boolean isKept = shown.group("type") != null;
        String declared = isKept ? shown.group("type") + call + "; " : "";
        String got = isKept ? shown.group("name") : call;
        return declared + "Check.is(" + quoted(call) + ", String.valueOf(" + got + "), \"" + answer + "\");";
    }

    private static String quoted(String text) {
        return "\"" + text.replace("\\", "\\\\").replace("\"", "\\\"") + "\"";
    }

    private static int exitCode(String... command) throws IOException, InterruptedException {
        return new ProcessBuilder(command).inheritIO().start().waitFor();
    }
}
