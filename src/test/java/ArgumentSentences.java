import java.lang.reflect.Method;
import java.util.ArrayList;
import java.util.Arrays;
import java.util.List;

/** The sentences that say from where to where arguments go, and what is thrown for others. */
final class ArgumentSentences extends Sentences {

    private static final String INDEX = "IndexOutOfBoundsException";
    private static final String ARGUMENT = "IllegalArgumentException";
    private static final Stage[] STAGES = {Stage.BARE, Stage.SOME, Stage.FULL};

    private ArgumentSentences() {
    }

    static void run() {
        for (Method method : Face.METHODS) {
            String section = Document.sectionOf(method.getName());
            if (Document.whenThrown(method.getName(), INDEX) != null) {
                numbersOfWhatIsThere(method, section);
            }
            if (Document.whenThrown(method.getName(), ARGUMENT) != null) {
                ranges(method, section);
            }
        }
        anyNumber();
    }

    /** Each number that there is not is refused, on three desks; the lowest and the highest one are taken. */
    private static void numbersOfWhatIsThere(Method method, String section) {
        String words = Document.whenThrown(method.getName(), INDEX);
        for (Stage stage : STAGES) {
            of(section, words, stage.name, () -> refusedBeyond(method, stage, "ugoea", INDEX));
        }
        of(section, words, "what there is is taken", () -> {
            takenAtTheEdges(method, Stage.SOME);
            takenAtTheEdges(method, Stage.FULL);
        });
    }

    private static void ranges(Method method, String section) {
        of(section, Document.whenThrown(method.getName(), ARGUMENT), () -> {
            refusedBeyond(method, Stage.SOME, "rsmcpl", ARGUMENT);
            refusedBeyond(method, Stage.FULL, "rsmcpl", ARGUMENT);
        });
        String roles = Face.roles(method.getName());
        for (int i = 0; i < roles.length(); i++) {
            if (isRange(roles.charAt(i))) {
                int place = i;
                of(section, wordsOf(roles.charAt(i)), () -> wholeRange(method, place));
            }
        }
    }

    private static String wordsOf(char role) {
        switch (role) {
            case 'r': return "0 to 3";
            case 's': return "1 to 15: a set of rights";
            case 'm': return "0 to 15: a set of rights";
            case 'c': return "the character code, 33 to 126";
            case 'p': return "0 to 79";
            default: return "0 or 1";
        }
    }

    private static boolean isRange(char role) {
        return "rsmcpl".indexOf(role) >= 0;
    }

    private static void refusedBeyond(Method method, Stage stage, String kinds, String exception) {
        String roles = Face.roles(method.getName());
        Object[] fine = highest(roles, stage);
        for (int i = 0; i < roles.length(); i++) {
            if (kinds.indexOf(roles.charAt(i)) >= 0) {
                PermissionDesk x = stage.desk();
                for (int number : wrong(roles.charAt(i), stage)) {
                    Object[] values = fine.clone();
                    values[i] = number;
                    is(method.getName() + Arrays.toString(values), Face.outcome(method, x, values),
                            "java.lang." + exception);
                }
            }
        }
    }

    private static void takenAtTheEdges(Method method, Stage stage) {
        String roles = Face.roles(method.getName());
        Object[] fine = highest(roles, stage);
        taken(method, stage, fine);
        for (int i = 0; i < roles.length(); i++) {
            // An entry stays one of the object that has some.
            boolean isOfList = roles.charAt(i) == 'o' && roles.contains("e");
            if (roles.charAt(i) != 'b' && !isRange(roles.charAt(i)) && !isOfList) {
                Object[] values = fine.clone();
                values[i] = 0;
                taken(method, stage, values);
            }
        }
    }

    private static void wholeRange(Method method, int place) {
        String roles = Face.roles(method.getName());
        int[] edges = range(roles.charAt(place));
        for (int number = edges[0]; number <= edges[1]; number++) {
            Object[] values = highest(roles, Stage.SOME);
            values[place] = number;
            taken(method, Stage.SOME, values);
        }
        Object[] values = highest(roles, Stage.SOME);
        for (int number : new int[] {edges[0] - 1, edges[1] + 1}) {
            values[place] = number;
            is(method.getName() + Arrays.toString(values),
                    Face.outcome(method, Stage.SOME.desk(), values), "java.lang." + ARGUMENT);
        }
    }

    /** What the state refuses may still be thrown. */
    private static void taken(Method method, Stage stage, Object[] values) {
        Object outcome = Face.outcome(method, stage.desk(), values);
        boolean isTaken = !(outcome instanceof String) || outcome.equals("java.lang.IllegalStateException");
        is(method.getName() + Arrays.toString(values) + " is taken: " + outcome, isTaken, true);
    }

    /** The highest values that the stage has; 0 where it has none. */
    static Object[] highest(String roles, Stage stage) {
        Object[] values = new Object[roles.length()];
        for (int i = 0; i < values.length; i++) {
            values[i] = roles.charAt(i) == 'b' ? (Object) false : (Object) highest(roles.charAt(i), stage);
        }
        return values;
    }

    private static int highest(char role, Stage stage) {
        switch (role) {
            case 'u': return stage.users - 1;
            case 'g': return Math.max(0, stage.groups - 1);
            case 'o': return stage.listed;
            case 'e': return Math.max(0, stage.entries - 1);
            case 'a': return Math.max(0, stage.kept - 1);
            case 'n': return 19;
            default: return range(role)[1];
        }
    }

    private static int[] range(char role) {
        switch (role) {
            case 'r': return new int[] {0, 3};
            case 's': return new int[] {1, 15};
            case 'm': return new int[] {0, 15};
            case 'c': return new int[] {33, 126};
            case 'p': return new int[] {0, 79};
            case 'l': return new int[] {0, 1};
            default: throw new IllegalArgumentException("no range " + role);
        }
    }

    /** Numbers beyond what the stage has, or beyond the range. */
    static List<Integer> wrong(char role, Stage stage) {
        List<Integer> numbers = new ArrayList<>();
        if (isRange(role)) {
            int[] edges = range(role);
            addWrong(numbers, new int[] {edges[0] - 1, edges[1] + 1, edges[1] + 2, edges[0] + 256,
                edges[0] - 256, edges[1] + 65536}, edges[0], edges[1]);
            addWrong(numbers, beyond(edges[1] + 1), edges[0], edges[1]);
        } else if (role == 'o') {
            for (int object = -1; object < 22; object++) {
                if (!stage.objects.contains(object)) {
                    numbers.add(object);
                }
            }
            addWrong(numbers, beyond(20), 0, 19);
        } else {
            int count = role == 'u' ? stage.users : role == 'g' ? stage.groups
                    : role == 'e' ? stage.entries : stage.kept;
            addWrong(numbers, beyond(count), 0, count - 1);
            addWrong(numbers, new int[] {6, 7, 8, 9, 12, 13, 20}, 0, count - 1);
        }
        return numbers;
    }

    private static void addWrong(List<Integer> numbers, int[] more, int low, int high) {
        for (int number : more) {
            if ((number < low || number > high) && !numbers.contains(number)) {
                numbers.add(number);
            }
        }
    }

    private static void anyNumber() {
        of("Promise 35", "any number", () -> {
            PermissionDesk x = Stage.SOME.desk();
            for (int number : wrong('o', Stage.SOME)) {
                is("isThere " + number, x.isThere(number), false);
            }
            for (int number : Stage.SOME.objects) {
                is("isThere " + number, x.isThere(number), true);
            }
        });
    }
}
