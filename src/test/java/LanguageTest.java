import java.lang.reflect.Field;
import java.lang.reflect.Method;
import java.lang.reflect.Modifier;
import java.nio.file.Files;
import java.nio.file.Path;
import java.util.ArrayList;
import java.util.Arrays;
import java.util.List;
import java.util.regex.Pattern;

/** What of LANGUAGE.md can be seen in the source by its words, and in the classes by their members. */
public final class LanguageTest {

    private static final int LONGEST_METHOD = 60;
    private static final int MOST_CLASSES = 12;
    private static final int MOST_FIELDS = 20;
    private static final int MOST_PARAMETERS = 7;

    private static final String[] BANNED = {"->", "::", "\\bfinally\\b", "\\bcatch\\b", "\\bsynchronized\\b",
        "\\bassert\\b", "\\bpackage\\b", "\\bhashCode\\b", "\\btoString\\b", "\\bSystem\\.(?!arraycopy)",
        "\\bObject\\b", "\\bThread\\b", "\\bString\\.", "\\w+Exact\\(", "\\bstatic \\{", "\\bvar\\b",
        "[A-Z]\\w*<", "\\bvolatile\\b", "\\bnative\\b", "\\bthis\\b"};

    public static void main(String[] args) throws Exception {
        List<String> lines = Files.readAllLines(Path.of("src", "main", "java", "PermissionDesk.java"));
        Check.part("language");
        signsAndImports(lines);
        words(lines);
        lengths(lines);
        members();
        Check.end();
    }

    private static void signsAndImports(List<String> lines) {
        for (String line : lines) {
            Check.is(line, line.chars().allMatch(c -> c >= 32 && c <= 126), true);
            if (line.startsWith("import")) {
                Check.is(line, line, "import java.util.Arrays;");
            }
        }
    }

    private static void words(List<String> lines) {
        for (String word : BANNED) {
            Pattern pattern = Pattern.compile(word);
            for (int i = 0; i < lines.size(); i++) {
                boolean isFound = pattern.matcher(bare(lines.get(i))).find();
                Check.is("line " + (i + 1) + " has " + word, isFound, false);
            }
        }
    }

    /** A line without comments and texts. */
    private static String bare(String line) {
        String start = line.trim();
        if (start.startsWith("*") || start.startsWith("/*")) {
            return "";
        }
        return line.replaceAll("\"[^\"]*\"", "\"\"").replaceAll("//.*", "");
    }

    /** A method begins where a line at its depth opens a brace, and ends at the brace of that depth. */
    private static void lengths(List<String> lines) {
        String depth = "    ";
        int start = 0;
        for (int i = 0; i < lines.size(); i++) {
            String line = lines.get(i);
            if (line.matches("    private static final class \\w+ \\{")) {
                depth = "        ";
            } else if (line.matches(depth + "\\S.*[{(,)]") && !line.startsWith(depth + "}")) {
                start = i;
            } else if (line.equals(depth + "}")) {
                Check.is("lines up to line " + (i + 1), i - start <= LONGEST_METHOD, true);
            } else if (line.equals("    }")) {
                depth = "    ";
            }
        }
    }

    private static void members() {
        List<Class<?>> all = new ArrayList<>(Arrays.asList(PermissionDesk.class.getDeclaredClasses()));
        for (Class<?> inside : all) {
            Check.is(inside + " is static", Modifier.isStatic(inside.getModifiers()), true);
            Check.is(inside + " is not public", Modifier.isPublic(inside.getModifiers()), false);
        }
        all.add(PermissionDesk.class);
        Check.is("classes", all.size() <= MOST_CLASSES, true);
        for (Class<?> each : all) {
            fields(each);
            for (Method method : each.getDeclaredMethods()) {
                Check.is(method.getName(), method.getParameterCount() <= MOST_PARAMETERS, true);
            }
        }
    }

    private static void fields(Class<?> type) {
        int count = 0;
        for (Field field : type.getDeclaredFields()) {
            if (Modifier.isStatic(field.getModifiers())) {
                Check.is(field.getName(), Modifier.isFinal(field.getModifiers()), true);
                Check.is(field.getName(), field.getType() == int.class || field.getType() == String.class, true);
            } else {
                count++;
            }
        }
        Check.is("fields of " + type.getName(), count <= MOST_FIELDS, true);
    }
}
