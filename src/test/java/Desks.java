/** Desks that tests start from, and what can be seen of a desk. */
class Desks {

    static final int NONE = -1;

    /** Numbers far from every range; 32 and 64 are where shifts of an int begin anew. */
    private static final int[] FAR = {NONE, -2, 32, 33, 64, -32, Integer.MIN_VALUE, Integer.MAX_VALUE};

    /** Users 0 to users - 1, and groups 0 to groups - 1. */
    static PermissionDesk desk(int users, int groups) {
        PermissionDesk desk = new PermissionDesk();
        for (int user = 1; user < users; user++) {
            desk.addUser();
        }
        for (int group = 0; group < groups; group++) {
            desk.addGroup();
        }
        return desk;
    }

    /** Objects 0 to objects - 1, each below the one before; the keeper owns them. */
    static PermissionDesk chain(int users, int groups, int objects) {
        PermissionDesk desk = desk(users, groups);
        for (int object = 1; object < objects; object++) {
            desk.make(object - 1, 0);
        }
        return desk;
    }

    /** The numbers next to the first one that is not there, and far ones. */
    static int[] beyond(int count) {
        int[] numbers = new int[FAR.length + 2];
        numbers[0] = count;
        numbers[1] = count + 1;
        System.arraycopy(FAR, 0, numbers, 2, FAR.length);
        return numbers;
    }

    static void append(PermissionDesk desk, String text) {
        for (int i = 0; i < text.length(); i++) {
            desk.append(text.charAt(i));
        }
    }

    static void type(PermissionDesk desk, String text) {
        desk.clear();
        append(desk, text);
    }

    static void load(PermissionDesk desk, String text) {
        type(desk, text);
        desk.loadEntries();
    }

    static String typed(PermissionDesk desk) {
        StringBuilder text = new StringBuilder();
        for (int i = 0; i < 80; i++) {
            int code = desk.codeAt(i);
            if (code == NONE) {
                return text.toString();
            }
            text.append((char) code);
        }
        return text.toString();
    }

    /** The list of an object as a text, told by the calls that look at entries. */
    static String list(PermissionDesk desk, int object) {
        StringBuilder text = new StringBuilder().append(object).append(':');
        int count = desk.entriesOf(object);
        for (int entry = 0; entry < count; entry++) {
            text.append(entry == 0 ? "" : ";").append(entry(desk, object, entry));
        }
        return text.toString();
    }

    private static String entry(PermissionDesk desk, int object, int entry) {
        int user = desk.userOfEntry(object, entry);
        int group = desk.groupOfEntry(object, entry);
        String other = desk.isForOwner(object, entry) ? "o" : "a";
        return (desk.isAllowing(object, entry) ? "+" : "-")
                + (user != NONE ? "u" + user : group != NONE ? "g" + group : other) + "="
                + rights(desk.rightsOfEntry(object, entry))
                + (desk.isForBelow(object, entry) ? "*" : "");
    }

    static String rights(int set) {
        StringBuilder text = new StringBuilder();
        for (int right = 0; right < 4; right++) {
            text.append((set >> right & 1) == 1 ? "rwxm".substring(right, right + 1) : "");
        }
        return text.toString();
    }

    /** All that can be seen of the state. */
    static String seen(PermissionDesk x) {
        StringBuilder text = new StringBuilder();
        int users = x.users();
        int groups = x.groups();
        text.append(users).append(' ').append(groups).append(' ').append(x.allRights()).append(' ');
        for (int group = 0; group < groups; group++) {
            for (int user = 0; user < users; user++) {
                text.append(x.isMember(user, group) ? 1 : 0);
            }
            for (int inner = 0; inner < groups; inner++) {
                text.append(x.isNested(inner, group) ? 1 : 0);
            }
        }
        for (int object = 0; object < 20; object++) {
            if (x.isThere(object)) {
                text.append(' ').append(list(x, object)).append(' ').append(x.parentOf(object))
                        .append(' ').append(x.ownerOf(object)).append(' ').append(x.maskOf(object))
                        .append(x.isInheriting(object));
            }
        }
        return text.append(log(x)).toString();
    }

    /** What can be seen of the log, the latest request first. */
    static String log(PermissionDesk x) {
        int requests = x.requests();
        StringBuilder text = new StringBuilder();
        text.append(' ').append(requests).append(' ').append(x.refusals());
        for (int ago = 0; ago < Math.min(requests, 8); ago++) {
            text.append(' ').append(x.userOfRequest(ago)).append(' ').append(x.objectOfRequest(ago))
                    .append(x.wasAllowed(ago));
        }
        return text.toString();
    }
}
