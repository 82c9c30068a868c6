import java.lang.reflect.Field;
import java.lang.reflect.Member;
import java.lang.reflect.Method;
import java.lang.reflect.Modifier;
import java.nio.file.Files;
import java.nio.file.Path;
import java.util.ArrayList;
import java.util.Arrays;
import java.util.List;
import java.util.Set;
import java.util.TreeSet;

/** The face of the class is the document's, signature by signature. */
public final class FaceTest {

    public static void main(String[] args) throws Exception {
        Class<?> type = PermissionDesk.class;
        Check.part("face");
        Check.is("public and final", Modifier.isPublic(type.getModifiers())
                && Modifier.isFinal(type.getModifiers()), true);
        Check.is("NONE", PermissionDesk.NONE, -1);
        Check.is("methods and constructors", described(type), documented());
        int open = 0;
        for (Member member : members(type)) {
            if (!Modifier.isPrivate(member.getModifiers())) {
                open++;
            }
        }
        Check.is("members that are not private", open, documented().size() + 1);
        Field none = type.getDeclaredField("NONE");
        Check.is("NONE is a constant", none.getModifiers(),
                Modifier.PUBLIC | Modifier.STATIC | Modifier.FINAL);
        namesOfPrivateMethods(type);
        Check.end();
    }

    private static List<Member> members(Class<?> type) {
        List<Member> all = new ArrayList<>();
        all.addAll(Arrays.asList(type.getDeclaredFields()));
        all.addAll(Arrays.asList(type.getDeclaredMethods()));
        all.addAll(Arrays.asList(type.getDeclaredConstructors()));
        return all;
    }

    private static Set<String> described(Class<?> type) {
        Set<String> found = new TreeSet<>();
        for (Method method : type.getDeclaredMethods()) {
            if (Modifier.isPublic(method.getModifiers())) {
                found.add(signature(method.getReturnType() + " " + method.getName(),
                        method.getParameterTypes(), method.getExceptionTypes()));
            }
        }
        found.add(signature("PermissionDesk", type.getDeclaredConstructors()[0].getParameterTypes(),
                new Class<?>[0]));
        return found;
    }

    private static String signature(String name, Class<?>[] parameters, Class<?>[] exceptions) {
        StringBuilder text = new StringBuilder(name).append("(");
        for (Class<?> parameter : parameters) {
            text.append(parameter.getSimpleName()).append(" ");
        }
        text.append(")");
        for (Class<?> exception : exceptions) {
            text.append(" ").append(exception.getSimpleName());
        }
        return text.toString();
    }

    /** The signatures of the document's code block, without the names of the parameters. */
    private static Set<String> documented() throws Exception {
        Set<String> found = new TreeSet<>();
        boolean isCode = false;
        for (String line : Files.readAllLines(Path.of("..", "shared", "DOC.md"))) {
            if (line.startsWith("```")) {
                isCode = line.startsWith("```java");
            } else if (isCode && line.contains("(") && line.startsWith("    public ")) {
                found.add(signatureOf(line.trim()));
            }
        }
        return found;
    }

    private static String signatureOf(String line) {
        String name = line.substring("public ".length(), line.indexOf('('));
        StringBuilder text = new StringBuilder(name).append("(");
        String parameters = line.substring(line.indexOf('(') + 1, line.indexOf(')'));
        for (String parameter : parameters.split(", *")) {
            if (!parameter.isEmpty()) {
                text.append(parameter.split(" ")[0]).append(" ");
            }
        }
        text.append(")");
        int clause = line.indexOf("throws ");
        if (clause >= 0) {
            for (String exception : line.substring(clause + 7, line.length() - 1).split(", *")) {
                text.append(" ").append(exception);
            }
        }
        return text.toString();
    }

    private static void namesOfPrivateMethods(Class<?> type) {
        Set<String> open = new TreeSet<>();
        for (Method method : type.getDeclaredMethods()) {
            if (Modifier.isPublic(method.getModifiers())) {
                open.add(method.getName());
            }
        }
        List<Class<?>> all = new ArrayList<>(Arrays.asList(type.getDeclaredClasses()));
        all.add(type);
        for (Class<?> each : all) {
            for (Method method : each.getDeclaredMethods()) {
                if (!Modifier.isPublic(method.getModifiers()) && open.contains(method.getName())) {
                    Check.fail(each.getSimpleName() + "." + method.getName() + " bears a public name");
                }
            }
        }
    }
}
