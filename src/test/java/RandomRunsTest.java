import java.lang.reflect.Method;
import java.util.HashMap;
import java.util.List;
import java.util.Map;
import java.util.Random;
import java.util.TreeMap;

/** Runs of 512 calls, always the same ones, each call compared with the model. */
public final class RandomRunsTest {

    private static final int CALLS = 512;
    private static final String[] GROWING = {"addUser", "addGroup", "join", "nest", "make",
        "addForUser", "addForGroup", "addForOwner", "addForAll"};
    private static final String[] DEAR = {"ask", "moveEntry", "share", "move", "isNeedless",
        "rightsThrough", "isStoppedByMask", "decidingObject", "decidingEntry", "rightsOf",
        "isAllowedByHandingDown", "userOfRequest", "objectOfRequest", "wasAllowed", "allRights"};

    private final Random random;
    private final int wide;
    private final PermissionDesk desk = new PermissionDesk();
    private final Model model = new Model();
    private final StringBuilder calls = new StringBuilder();
    private int made = 0;

    private static final Map<String, Method> OF_MODEL = new HashMap<>();
    private static final TreeMap<String, int[]> SEEN = new TreeMap<>();

    private RandomRunsTest(int seed) {
        random = new Random(seed);
        wide = 1 + random.nextInt(4);
    }

    public static void main(String[] args) throws Exception {
        int runs = args.length > 0 ? Integer.parseInt(args[0]) : 600;
        for (Method method : Face.METHODS) {
            OF_MODEL.put(method.getName(),
                    Model.class.getDeclaredMethod(method.getName(), method.getParameterTypes()));
        }
        for (int seed = 0; seed < runs; seed++) {
            Check.part("run " + seed);
            if (!new RandomRunsTest(seed).run()) {
                break;
            }
        }
        seenEnough();
        Check.end();
    }

    /** Each outcome has to have been there often, or the runs are worth little. */
    private static void seenEnough() {
        Check.part("coverage");
        for (Map.Entry<String, int[]> each : SEEN.entrySet()) {
            Check.is(each.getKey() + " more than 20 times", each.getValue()[0] > 20, true);
        }
    }

    private boolean run() {
        int growth = random.nextInt(120);
        while (made < CALLS) {
            boolean fine;
            int kind = random.nextInt(60);
            if (made < growth || kind < 15) {
                fine = call(Face.method(GROWING[random.nextInt(GROWING.length)]));
            } else if (kind < 30) {
                fine = call(Face.method(DEAR[random.nextInt(DEAR.length)]));
            } else if (kind == 30) {
                fine = typeText();
            } else if (kind == 31) {
                fine = undoAll();
            } else {
                fine = call(Face.METHODS.get(random.nextInt(Face.METHODS.size())));
            }
            if (!fine) {
                return false;
            }
        }
        return true;
    }

    private boolean undoAll() {
        boolean fine = true;
        for (int n = random.nextInt(8); fine && n > 0; n--) {
            fine = compare(Face.method("undo"));
        }
        return fine;
    }

    private boolean call(Method method) {
        String roles = Face.roles(method.getName());
        Object[] values = new Object[method.getParameterCount()];
        int object = 0;
        for (int i = 0; i < values.length; i++) {
            char role = roles.charAt(i);
            if (role == 'b') {
                values[i] = random.nextBoolean();
            } else {
                int number = number(role, object);
                object = role == 'o' ? number : object;
                values[i] = number;
            }
        }
        return compare(method, values);
    }

    private boolean compare(Method method, Object... values) {
        if (made >= CALLS) {
            return true;
        }
        made++;
        Object due = Face.outcome(OF_MODEL.get(method.getName()), model, values);
        Object got = Face.outcome(method, desk, values);
        calls.append(method.getName()).append(List.of(values)).append(' ').append(due).append('\n');
        Check.is(method.getName() + List.of(values), got, due);
        String key = method.getName() + (due instanceof String ? " " + due : "");
        SEEN.computeIfAbsent(key, k -> new int[1])[0]++;
        if (!got.equals(due)) {
            System.out.println(calls);
            return false;
        }
        return true;
    }

    /** Mostly a number that is there, at times one next to the edge, or far off. */
    private int number(char role, int object) {
        int kind = random.nextInt(60);
        if (kind == 0) {
            return new int[] {-1, 20, 21, 32, 80, Integer.MIN_VALUE, Integer.MAX_VALUE}[random.nextInt(7)];
        }
        boolean isEdge = kind == 1 || kind < 6 && (role == 'c' || role == 'p');
        switch (role) {
            case 'u': return isEdge ? model.users() : random.nextInt(model.users());
            case 'g': return isEdge || model.groups() == 0 ? model.groups() : random.nextInt(model.groups());
            case 'o': case 'n': return anObject(isEdge);
            case 'e': return random.nextInt(entries(object) + (isEdge || entries(object) == 0 ? 1 : 0));
            case 'r': return random.nextInt(isEdge ? 6 : 4);
            case 's': case 'm': return isEdge ? 16 * random.nextInt(2) : random.nextInt(16);
            case 'l': return random.nextInt(isEdge ? 3 : 2);
            case 'a': return random.nextInt(Math.min(8, model.requests()) + (kind < 5 ? 2 : 1));
            case 'c': return isEdge ? 32 + 95 * random.nextInt(2) : "0123456789:;+-ugoarwxm=*".charAt(random.nextInt(24));
            case 'p': return isEdge ? 79 + random.nextInt(2) : random.nextInt(12);
            default: throw new IllegalArgumentException("no role " + role);
        }
    }

    private int anObject(boolean isAny) {
        int object = random.nextInt(20);
        while (!isAny && !model.isThere(object)) {
            object = random.nextInt(20);
        }
        return object;
    }

    private int entries(int object) {
        return model.isThere(object) ? model.entriesOf(object) : 0;
    }

    /** A text that is a list, or nearly one, is typed, looked at, and loaded at times. */
    private boolean typeText() {
        StringBuilder text = new StringBuilder(listText());
        int kind = random.nextInt(4);
        if (kind == 0) {
            text.insert(random.nextInt(text.length() + 1), "0129:;+ugarm=*".charAt(random.nextInt(14)));
        } else if (kind == 1) {
            text.deleteCharAt(random.nextInt(text.length()));
        }
        boolean fine = compare(Face.method("clear"));
        for (int i = 0; fine && i < text.length(); i++) {
            fine = compare(Face.method("append"), (int) text.charAt(i));
        }
        fine = fine && compare(Face.method("fault"));
        fine = fine && compare(Face.method("loadEntries"));
        fine = fine && compare(Face.method("codeAt"), 0);
        return fine && compare(Face.method("writeEntries"), random.nextInt(4));
    }

    private String listText() {
        StringBuilder text = new StringBuilder();
        text.append(random.nextInt(random.nextInt(5) == 0 ? 20 : 2 * wide)).append(':');
        int entries = random.nextInt(8);
        for (int entry = 0; entry < entries; entry++) {
            text.append(entry == 0 ? "" : ";").append(random.nextBoolean() ? '+' : '-');
            switch (random.nextInt(4)) {
                case 0 -> text.append('u').append(random.nextInt(random.nextInt(6) == 0 ? 13 : 2 * wide));
                case 1 -> text.append('g').append(random.nextInt(random.nextInt(6) == 0 ? 9 : wide));
                case 2 -> text.append('o');
                default -> text.append('a');
            }
            text.append('=');
            int rights = random.nextInt(20) == 0 ? 0 : 1 + random.nextInt(15);
            for (int right = 0; right < 4; right++) {
                text.append((rights >> right & 1) == 1 ? "rwxm".substring(right, right + 1) : "");
            }
            text.append(random.nextBoolean() ? "*" : "");
        }
        return text.toString();
    }
}
