import java.lang.reflect.Field;
import java.lang.reflect.Method;
import java.lang.reflect.Modifier;
import java.nio.file.Files;
import java.nio.file.Path;
import java.util.ArrayList;
import java.util.Arrays;
import java.util.List;
import java.util.Map;
import java.util.regex.Pattern;

/**
 * What of LANGUAGE.md can be seen in the source by its words, in the classes by their members, and in the
 * compiled methods by what they call and make.
 */
public final class LanguageTest {

    private static final int LONGEST_METHOD = 60;
    private static final int MOST_CLASSES = 12;
    private static final int MOST_FIELDS = 20;
    private static final int MOST_PARAMETERS = 7;
    private static final int DEEPEST_CALL = 8;

    private static final Pattern EXCEPTION = Pattern.compile("java/lang/(IllegalState|IllegalArgument|"
            + "IndexOutOfBounds|Arithmetic|UnsupportedOperation|Runtime)Exception"
            + "|java/util/NoSuchElementException");
    private static final Pattern LIBRARY = Pattern.compile("java/lang/Object\\.<init>"
            + "|java/lang/String\\.(length|charAt|isEmpty|equals|indexOf|substring|toCharArray)"
            + "|java/lang/(Integer|Long|Math)\\.(compare|max|min|abs|bitCount|floorDiv|floorMod)"
            + "|java/lang/System\\.arraycopy|java/util/Arrays\\.(copyOf|copyOfRange|fill)");

    private static final String[] BANNED = {"->", "::", "\\bfinally\\b", "\\bcatch\\b", "\\bsynchronized\\b",
        "\\bassert\\b", "\\bpackage\\b", "\\bhashCode\\b", "\\btoString\\b", "\\bSystem\\.(?!arraycopy)",
        "\\bObject\\b", "\\bThread\\b", "\\bString\\.", "\\w+Exact\\(", "\\bstatic \\{", "\\bvar\\b",
        "[A-Z]\\w*<", "\\bvolatile\\b", "\\bnative\\b", "\\bthis\\b"};

    public static void main(String[] args) throws Exception {
        List<String> lines = Files.readAllLines(Path.of("src", "main", "java", "PermissionDesk.java"));
        Check.part("language");
        signsAndImports(lines);
        words(lines);
        lengths(lines);
        members();
        Map<String, Compiled.Body> methods = Compiled.methodsOf(PermissionDesk.class);
        callsOfTheLibrary(methods);
        whatIsMade(methods);
        for (Method method : Face.METHODS) {
            depths(methods, "PermissionDesk." + method.getName(), 1);
        }
        Check.end();
    }

    private static void signsAndImports(List<String> lines) {
        for (String line : lines) {
            Check.is(line, line.chars().allMatch(c -> c >= 32 && c <= 126), true);
            if (line.startsWith("import")) {
                Check.is(line, line, "import java.util.Arrays;");
            }
        }
    }

    private static void words(List<String> lines) {
        for (String word : BANNED) {
            Pattern pattern = Pattern.compile(word);
            for (int i = 0; i < lines.size(); i++) {
                boolean isFound = pattern.matcher(bare(lines.get(i))).find();
                Check.is("line " + (i + 1) + " has " + word, isFound, false);
            }
        }
    }

    /** A line without comments and texts. */
    private static String bare(String line) {
        String start = line.trim();
        if (start.startsWith("*") || start.startsWith("/*")) {
            return "";
        }
        return line.replaceAll("\"[^\"]*\"", "\"\"").replaceAll("//.*", "");
    }

    /** A method begins where a line at its depth opens a brace, and ends at the brace of that depth. */
    private static void lengths(List<String> lines) {
        String depth = "    ";
        int start = 0;
        for (int i = 0; i < lines.size(); i++) {
            String line = lines.get(i);
            if (line.matches("    private static final class \\w+ \\{")) {
                depth = "        ";
            } else if (line.matches(depth + "\\S.*[{(,)]") && !line.startsWith(depth + "}")) {
                start = i;
            } else if (line.equals(depth + "}")) {
                Check.is("lines up to line " + (i + 1), i - start <= LONGEST_METHOD, true);
            } else if (line.equals("    }")) {
                depth = "    ";
            }
        }
    }

    private static void members() {
        List<Class<?>> all = new ArrayList<>(Arrays.asList(PermissionDesk.class.getDeclaredClasses()));
        for (Class<?> inside : all) {
            Check.is(inside + " is static", Modifier.isStatic(inside.getModifiers()), true);
            Check.is(inside + " is not public", Modifier.isPublic(inside.getModifiers()), false);
        }
        all.add(PermissionDesk.class);
        Check.is("classes", all.size() <= MOST_CLASSES, true);
        for (Class<?> each : all) {
            fields(each);
            for (Method method : each.getDeclaredMethods()) {
                Check.is(method.getName(), method.getParameterCount() <= MOST_PARAMETERS, true);
            }
        }
    }

    private static void fields(Class<?> type) {
        int count = 0;
        for (Field field : type.getDeclaredFields()) {
            if (Modifier.isStatic(field.getModifiers())) {
                Check.is(field.getName(), Modifier.isFinal(field.getModifiers()), true);
                Check.is(field.getName(), field.getType() == int.class || field.getType() == String.class, true);
            } else {
                count++;
            }
        }
        Check.is("fields of " + type.getName(), count <= MOST_FIELDS, true);
    }

    private static void callsOfTheLibrary(Map<String, Compiled.Body> methods) {
        methods.forEach((name, body) -> {
            Check.is(name + " has dynamic calls", body.hasDynamicCalls, false);
            for (String called : body.calls) {
                boolean isException = EXCEPTION.matcher(called.replace(".<init>", "")).matches();
                boolean isFine = methods.containsKey(called) || isException || LIBRARY.matcher(called).matches();
                Check.is(name + " may call " + called, isFine, true);
            }
        });
    }

    /** What is made at each call would fill the room of a run: only the slots' states are, once each. */
    private static void whatIsMade(Map<String, Compiled.Body> methods) {
        methods.forEach((name, body) -> {
            boolean isFree = name.endsWith(".<init>") || name.equals("PermissionDesk.save");
            for (String made : body.makes) {
                Check.is(name + " may make " + made, isFree || EXCEPTION.matcher(made).matches(), true);
            }
        });
    }

    /** A method that calls itself, by others too, would go too deep here. */
    private static void depths(Map<String, Compiled.Body> methods, String name, int depth) {
        Check.is(name + " is called " + depth + " deep", depth <= DEEPEST_CALL, true);
        if (depth <= DEEPEST_CALL && methods.containsKey(name)) {
            for (String called : methods.get(name).calls) {
                depths(methods, called, depth + 1);
            }
        }
    }
}
