import java.io.IOException;
import java.nio.file.Files;
import java.nio.file.Path;
import java.util.ArrayList;
import java.util.BitSet;
import java.util.LinkedHashMap;
import java.util.List;
import java.util.Map;

/** The sentences of ../shared/DOC.md by their sections, and which of their words have a test. */
final class Document {

    private static final class Section {
        final StringBuilder text = new StringBuilder();
        final List<Integer> ends = new ArrayList<>();
        final BitSet tested = new BitSet();

        void add(String sentence) {
            text.append(sentence).append('\n');
            ends.add(text.length());
        }
    }

    private static final Map<String, Section> SECTIONS = new LinkedHashMap<>();
    private static final Map<String, String> SECTION_OF_METHOD = new LinkedHashMap<>();

    /** What says no more than the line that says which exception is thrown. */
    private static final String PLAIN_PARAMETER = "number of (a user|a group|an object|an entry of it)";

    static {
        try {
            read(Files.readAllLines(Path.of("..", "shared", "DOC.md")));
        } catch (IOException e) {
            throw new IllegalStateException(e);
        }
    }

    private Document() {
    }

    private static void read(List<String> lines) {
        Section section = null;
        for (String line : lines) {
            if (line.startsWith("## ")) {
                section = open(line.substring(3));
            } else if (section != null && !line.isBlank()) {
                readLine(section, line);
            }
        }
    }

    /** The sections that promise something; null for the others. */
    private static Section open(String heading) {
        String name = heading.split(":")[0];
        if (!name.startsWith("Promise ") && !name.equals("Terms") && !name.equals("What it is")) {
            return null;
        }
        if (name.startsWith("Promise ")) {
            SECTION_OF_METHOD.put(heading.split(": ")[1], name);
        }
        Section section = new Section();
        SECTIONS.put(name, section);
        return section;
    }

    private static void readLine(Section section, String line) {
        boolean isHeading = line.startsWith("#") || line.equals("Users, groups") || line.equals("Rights, entries");
        if (isHeading || line.startsWith("Ahead of the calls") || line.startsWith("The constants")
                || line.startsWith("Permission checker with groups")) {
            return;
        }
        String words = line.replaceAll("^(- )?`[^`]*`: ", "").replaceAll("^Throws `[^`]*` ", "");
        if (!words.matches(PLAIN_PARAMETER)) {
            for (String sentence : words.split("(?<=\\.) ")) {
                section.add(line.startsWith("Throws") ? exceptionOf(line) + " " + sentence : sentence);
            }
        }
    }

    private static String exceptionOf(String line) {
        return line.split("`")[1] + ":";
    }

    static String sectionOf(String method) {
        return SECTION_OF_METHOD.get(method);
    }

    /** The words that say when a method throws the exception; null if it never does. */
    static String whenThrown(String method, String exception) {
        for (String sentence : sentences(SECTIONS.get(sectionOf(method)))) {
            if (sentence.startsWith(exception + ": ")) {
                return sentence.substring(exception.length() + 2);
            }
        }
        return null;
    }

    /** Whether the section says these words; if so, they have a test. */
    static boolean test(String name, String words) {
        Section section = SECTIONS.get(name);
        int at = section == null ? -1 : section.text.indexOf(words);
        boolean isThere = at >= 0;
        while (at >= 0) {
            section.tested.set(at, at + words.length());
            at = section.text.indexOf(words, at + 1);
        }
        return isThere;
    }

    /** The sentences with a word that has no test. */
    static List<String> untested() {
        List<String> found = new ArrayList<>();
        for (Map.Entry<String, Section> each : SECTIONS.entrySet()) {
            Section section = each.getValue();
            int start = 0;
            for (int end : section.ends) {
                if (hasUntested(section, start, end)) {
                    found.add(each.getKey() + ", \"" + section.text.substring(start, end - 1) + "\"");
                }
                start = end;
            }
        }
        return found;
    }

    private static boolean hasUntested(Section section, int start, int end) {
        String text = section.text.substring(start, end);
        int words = text.matches("(?s)\\w+Exception: .*") ? text.indexOf(": ") : 0;
        for (int i = words; i < text.length(); i++) {
            if (Character.isLetterOrDigit(text.charAt(i)) && !section.tested.get(start + i)) {
                return true;
            }
        }
        return false;
    }

    private static List<String> sentences(Section section) {
        return List.of(section.text.toString().split("\n"));
    }
}
