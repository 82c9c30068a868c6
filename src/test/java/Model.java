import java.util.ArrayDeque;
import java.util.ArrayList;
import java.util.Deque;
import java.util.HashMap;
import java.util.HashSet;
import java.util.List;
import java.util.Map;
import java.util.Set;
import java.util.TreeMap;
import java.util.TreeSet;
import java.util.regex.Matcher;
import java.util.regex.Pattern;

/** The document said again in the slowest and plainest way, to compare the class with. */
final class Model {

    private static final Pattern LIST;

    static {
        String entry = "[+-](?:u(?:10|11|[0-9])|g[0-7]|o|a)=(?=[rwxm])r?w?x?m?\\*?";
        LIST = Pattern.compile("(1[0-9]|[0-9]):(?:" + entry + "(?:;" + entry + "){0,5})?");
    }

    /** An entry: never changed after it has been made. */
    private record Entry(String who, int number, Set<Integer> rights, boolean allows, boolean below) {
    }

    private static final class Thing {
        int parent;
        int owner;
        int mask = 15;
        boolean inherits = true;
        List<Entry> list = new ArrayList<>();

        Thing(int parent, int owner) {
            this.parent = parent;
            this.owner = owner;
        }

        Thing copy() {
            Thing copy = new Thing(parent, owner);
            copy.mask = mask;
            copy.inherits = inherits;
            copy.list = new ArrayList<>(list);
            return copy;
        }
    }

    private record Request(int user, int object, boolean allowed) {
    }

    private static final class All {
        int users = 1;
        int groups = 0;
        Set<List<Integer>> members = new HashSet<>();
        Set<List<Integer>> nested = new HashSet<>();
        TreeMap<Integer, Thing> things = new TreeMap<>();
        List<Request> requests = new ArrayList<>();

        All copy() {
            All copy = new All();
            copy.users = users;
            copy.groups = groups;
            copy.members.addAll(members);
            copy.nested.addAll(nested);
            for (Map.Entry<Integer, Thing> each : things.entrySet()) {
                copy.things.put(each.getKey(), each.getValue().copy());
            }
            copy.requests.addAll(requests);
            return copy;
        }
    }

    private All all = new All();
    private final Deque<All> history = new ArrayDeque<>();
    private final Map<Integer, All> slots = new HashMap<>();
    private String pad = "";

    Model() {
        all.things.put(0, new Thing(-1, 0));
    }

    // ---- what is thrown

    private static void index(boolean isFine) {
        if (!isFine) {
            throw new IndexOutOfBoundsException();
        }
    }

    private static void argument(boolean isFine) {
        if (!isFine) {
            throw new IllegalArgumentException();
        }
    }

    private static void state(boolean isFine) {
        if (!isFine) {
            throw new IllegalStateException();
        }
    }

    private boolean isUser(int user) {
        return 0 <= user && user < all.users;
    }

    private boolean isGroup(int group) {
        return 0 <= group && group < all.groups;
    }

    private Thing thing(int object) {
        index(all.things.containsKey(object));
        return all.things.get(object);
    }

    private Entry entry(int object, int entry) {
        List<Entry> list = thing(object).list;
        index(0 <= entry && entry < list.size());
        return list.get(entry);
    }

    private static void right(int right) {
        argument(0 <= right && right <= 3);
    }

    private void change() {
        history.addLast(all.copy());
        if (history.size() > 5) {
            history.removeFirst();
        }
    }

    private static int bits(Set<Integer> set) {
        int bits = 0;
        for (int each : set) {
            bits += 1 << each;
        }
        return bits;
    }

    private static Set<Integer> set(int bits) {
        Set<Integer> set = new TreeSet<>();
        for (int each = 0; each < 4; each++) {
            if ((bits >> each) % 2 == 1) {
                set.add(each);
            }
        }
        return set;
    }

    // ---- the changes

    int addUser() {
        state(all.users < 12);
        change();
        return all.users++;
    }

    int addGroup() {
        state(all.groups < 8);
        change();
        return all.groups++;
    }

    int join(int user, int group) {
        index(isUser(user) && isGroup(group));
        state(!all.members.contains(List.of(user, group)));
        change();
        all.members.add(List.of(user, group));
        return size(group);
    }

    int leave(int user, int group) {
        index(isUser(user) && isGroup(group));
        state(all.members.contains(List.of(user, group)));
        change();
        all.members.remove(List.of(user, group));
        return size(group);
    }

    int nest(int inner, int outer) {
        index(isGroup(inner) && isGroup(outer));
        state(inner != outer && !all.nested.contains(List.of(inner, outer)) && !within(outer, inner));
        change();
        all.nested.add(List.of(inner, outer));
        return size(outer);
    }

    int unnest(int inner, int outer) {
        index(isGroup(inner) && isGroup(outer));
        state(all.nested.contains(List.of(inner, outer)));
        change();
        all.nested.remove(List.of(inner, outer));
        return size(outer);
    }

    private boolean within(int inner, int outer) {
        for (int between = 0; between < all.groups; between++) {
            if (all.nested.contains(List.of(inner, between)) && (between == outer || within(between, outer))) {
                return true;
            }
        }
        return false;
    }

    private boolean member(int user, int group) {
        if (all.members.contains(List.of(user, group))) {
            return true;
        }
        for (int inner = 0; inner < all.groups; inner++) {
            if (within(inner, group) && all.members.contains(List.of(user, inner))) {
                return true;
            }
        }
        return false;
    }

    private int size(int group) {
        int size = 0;
        for (int user = 0; user < all.users; user++) {
            size += member(user, group) ? 1 : 0;
        }
        return size;
    }

    int make(int parent, int owner) {
        thing(parent);
        index(isUser(owner));
        state(all.things.size() < 20);
        change();
        int object = 0;
        while (all.things.containsKey(object)) {
            object++;
        }
        all.things.put(object, new Thing(parent, owner));
        return object;
    }

    int remove(int object) {
        thing(object);
        state(object != 0 && below(object) == 0);
        change();
        all.things.remove(object);
        return all.things.size();
    }

    private boolean isBelow(int object, int upper) {
        int parent = all.things.get(object).parent;
        return parent != -1 && (parent == upper || isBelow(parent, upper));
    }

    int move(int object, int parent) {
        thing(object);
        thing(parent);
        state(object != 0 && object != parent && !isBelow(parent, object));
        change();
        int before = thing(object).parent;
        thing(object).parent = parent;
        return before;
    }

    int giveTo(int object, int owner) {
        thing(object);
        index(isUser(owner));
        change();
        int before = thing(object).owner;
        thing(object).owner = owner;
        return before;
    }

    int setMask(int object, int rights) {
        thing(object);
        argument(0 <= rights && rights <= 15);
        change();
        int before = thing(object).mask;
        thing(object).mask = rights;
        return before;
    }

    boolean setInheriting(int object, boolean isInheriting) {
        thing(object);
        change();
        boolean before = thing(object).inherits;
        thing(object).inherits = isInheriting;
        return before;
    }

    int addForUser(int object, int user, int rights, boolean isAllowing, boolean isForBelow) {
        thing(object);
        index(isUser(user));
        return add(object, "u", user, rights, isAllowing, isForBelow);
    }

    int addForGroup(int object, int group, int rights, boolean isAllowing, boolean isForBelow) {
        thing(object);
        index(isGroup(group));
        return add(object, "g", group, rights, isAllowing, isForBelow);
    }

    int addForOwner(int object, int rights, boolean isAllowing, boolean isForBelow) {
        thing(object);
        return add(object, "o", -1, rights, isAllowing, isForBelow);
    }

    int addForAll(int object, int rights, boolean isAllowing, boolean isForBelow) {
        thing(object);
        return add(object, "a", -1, rights, isAllowing, isForBelow);
    }

    private int add(int object, String who, int number, int rights, boolean allows, boolean below) {
        argument(1 <= rights && rights <= 15);
        state(thing(object).list.size() < 6);
        change();
        thing(object).list.add(new Entry(who, number, set(rights), allows, below));
        return thing(object).list.size();
    }

    int removeEntry(int object, int entry) {
        entry(object, entry);
        change();
        thing(object).list.remove(entry);
        return thing(object).list.size();
    }

    int moveEntry(int object, int entry, int place) {
        entry(object, entry);
        entry(object, place);
        change();
        Set<List<Integer>> before = everything();
        thing(object).list.add(place, thing(object).list.remove(entry));
        Set<List<Integer>> after = everything();
        int count = 0;
        for (List<Integer> each : before) {
            count += after.contains(each) ? 0 : 1;
        }
        for (List<Integer> each : after) {
            count += before.contains(each) ? 0 : 1;
        }
        return count;
    }

    boolean ask(int user, int object, int right) {
        index(isUser(user));
        thing(object);
        right(right);
        change();
        boolean allowed = allowed(user, object, right);
        all.requests.add(0, new Request(user, object, allowed));
        return allowed;
    }

    int share(int giver, int object, int user, int rights) {
        index(isUser(giver) && isUser(user));
        thing(object);
        argument(1 <= rights && rights <= 15);
        state(allowed(giver, object, 3));
        for (int right : set(rights)) {
            state(allowed(giver, object, right));
        }
        state(thing(object).list.size() < 6);
        change();
        thing(object).list.add(0, new Entry("u", user, set(rights), true, false));
        return rightsOf(user, object);
    }

    // ---- texts

    int append(int code) {
        argument(33 <= code && code <= 126);
        state(pad.length() < 80);
        pad += (char) code;
        return pad.length();
    }

    int clear() {
        int length = pad.length();
        pad = "";
        return length;
    }

    int fault() {
        if (LIST.matcher(pad).matches()) {
            return -1;
        }
        for (int length = 1; length <= pad.length(); length++) {
            Matcher matcher = LIST.matcher(pad.substring(0, length));
            if (!matcher.matches() && !matcher.hitEnd()) {
                return length - 1;
            }
        }
        return pad.length();
    }

    int loadEntries() {
        state(fault() == -1);
        int colon = pad.indexOf(':');
        int object = Integer.parseInt(pad.substring(0, colon));
        state(all.things.containsKey(object));
        List<Entry> list = new ArrayList<>();
        if (colon + 1 < pad.length()) {
            for (String text : pad.substring(colon + 1).split(";")) {
                list.add(read(text));
            }
        }
        change();
        thing(object).list = list;
        pad = "";
        return list.size();
    }

    private Entry read(String text) {
        int equals = text.indexOf('=');
        String who = text.substring(1, 2);
        int number = equals > 2 ? Integer.parseInt(text.substring(2, equals)) : -1;
        state(!who.equals("u") || isUser(number));
        state(!who.equals("g") || isGroup(number));
        Set<Integer> rights = new TreeSet<>();
        for (int right = 0; right < 4; right++) {
            if (text.indexOf("rwxm".charAt(right), equals) >= 0) {
                rights.add(right);
            }
        }
        return new Entry(who, number, rights, text.startsWith("+"), text.endsWith("*"));
    }

    int writeEntries(int object) {
        List<String> texts = new ArrayList<>();
        for (Entry entry : thing(object).list) {
            String text = (entry.allows ? "+" : "-") + entry.who + (entry.number < 0 ? "" : entry.number) + "=";
            for (int right : entry.rights) {
                text += "rwxm".charAt(right);
            }
            texts.add(text + (entry.below ? "*" : ""));
        }
        pad = object + ":" + String.join(";", texts);
        return pad.length();
    }

    int codeAt(int place) {
        argument(0 <= place && place <= 79);
        return place < pad.length() ? pad.charAt(place) : -1;
    }

    // ---- what there is

    int users() {
        return all.users;
    }

    int groups() {
        return all.groups;
    }

    boolean isMember(int user, int group) {
        index(isUser(user) && isGroup(group));
        return all.members.contains(List.of(user, group));
    }

    boolean isNested(int inner, int outer) {
        index(isGroup(inner) && isGroup(outer));
        return all.nested.contains(List.of(inner, outer));
    }

    boolean belongs(int user, int group) {
        index(isUser(user) && isGroup(group));
        return member(user, group);
    }

    boolean belongsByMembers(int user, int group) {
        return belongs(user, group);
    }

    int objects() {
        return all.things.size();
    }

    boolean isThere(int object) {
        return all.things.containsKey(object);
    }

    int parentOf(int object) {
        return thing(object).parent;
    }

    int ownerOf(int object) {
        return thing(object).owner;
    }

    int maskOf(int object) {
        return thing(object).mask;
    }

    boolean isInheriting(int object) {
        return thing(object).inherits;
    }

    int below(int object) {
        thing(object);
        int count = 0;
        for (int other : all.things.keySet()) {
            count += isBelow(other, object) ? 1 : 0;
        }
        return count;
    }

    int entriesOf(int object) {
        return thing(object).list.size();
    }

    boolean isAllowing(int object, int entry) {
        return entry(object, entry).allows;
    }

    int rightsOfEntry(int object, int entry) {
        return bits(entry(object, entry).rights);
    }

    int userOfEntry(int object, int entry) {
        Entry e = entry(object, entry);
        return e.who.equals("u") ? e.number : -1;
    }

    int groupOfEntry(int object, int entry) {
        Entry e = entry(object, entry);
        return e.who.equals("g") ? e.number : -1;
    }

    boolean isForOwner(int object, int entry) {
        return entry(object, entry).who.equals("o");
    }

    boolean isForBelow(int object, int entry) {
        return entry(object, entry).below;
    }

    // ---- what is allowed

    /** The places of the entries that count at an object, as pairs of an object and a number. */
    private List<int[]> counting(int object, boolean isBelowAlone) {
        List<int[]> places = new ArrayList<>();
        Thing thing = all.things.get(object);
        for (int entry = 0; entry < thing.list.size(); entry++) {
            if (!isBelowAlone || thing.list.get(entry).below) {
                places.add(new int[] {object, entry});
            }
        }
        if (thing.inherits && thing.parent != -1) {
            places.addAll(counting(thing.parent, true));
        }
        return places;
    }

    private boolean isFor(Entry entry, int user, int object) {
        return entry.who.equals("a")
                || entry.who.equals("u") && entry.number == user
                || entry.who.equals("g") && member(user, entry.number)
                || entry.who.equals("o") && all.things.get(object).owner == user;
    }

    private int[] deciding(int user, int object, int right) {
        for (int[] place : counting(object, false)) {
            Entry entry = all.things.get(place[0]).list.get(place[1]);
            if (entry.rights.contains(right) && isFor(entry, user, object)) {
                return place;
            }
        }
        return null;
    }

    private boolean allowed(int user, int object, int right) {
        Thing thing = all.things.get(object);
        int[] place = deciding(user, object, right);
        return user == 0 || right == 3 && thing.owner == user
                || place != null && entry(place[0], place[1]).allows && set(thing.mask).contains(right);
    }

    private Set<List<Integer>> everything() {
        Set<List<Integer>> found = new HashSet<>();
        for (int object : all.things.keySet()) {
            for (int user = 0; user < all.users; user++) {
                for (int right = 0; right < 4; right++) {
                    if (allowed(user, object, right)) {
                        found.add(List.of(user, object, right));
                    }
                }
            }
        }
        return found;
    }

    private void question(int user, int object, int right) {
        index(isUser(user));
        thing(object);
        right(right);
    }

    boolean isAllowed(int user, int object, int right) {
        question(user, object, right);
        return allowed(user, object, right);
    }

    boolean isAllowedByHandingDown(int user, int object, int right) {
        return isAllowed(user, object, right);
    }

    int rightsOf(int user, int object) {
        question(user, object, 0);
        int rights = 0;
        for (int right = 0; right < 4; right++) {
            rights += allowed(user, object, right) ? 1 << right : 0;
        }
        return rights;
    }

    int decidingObject(int user, int object, int right) {
        question(user, object, right);
        int[] place = deciding(user, object, right);
        return place == null ? -1 : place[0];
    }

    int decidingEntry(int user, int object, int right) {
        question(user, object, right);
        int[] place = deciding(user, object, right);
        return place == null ? -1 : place[1];
    }

    boolean isStoppedByMask(int user, int object, int right) {
        question(user, object, right);
        if (allowed(user, object, right)) {
            return false;
        }
        Thing thing = thing(object);
        int mask = thing.mask;
        thing.mask = 15;
        boolean allowed = allowed(user, object, right);
        thing.mask = mask;
        return allowed;
    }

    int usersWith(int object, int right) {
        question(0, object, right);
        int count = 0;
        for (int user = 0; user < all.users; user++) {
            count += allowed(user, object, right) ? 1 : 0;
        }
        return count;
    }

    int rightsThrough(int user, int group) {
        index(isUser(user) && isGroup(group));
        int count = 0;
        for (List<Integer> each : everything()) {
            int[] place = deciding(user, each.get(1), each.get(2));
            if (each.get(0) == user && place != null) {
                Entry entry = entry(place[0], place[1]);
                count += entry.allows && entry.who.equals("g") && entry.number == group ? 1 : 0;
            }
        }
        return count;
    }

    boolean isNeedless(int object, int entry) {
        Entry taken = entry(object, entry);
        Set<List<Integer>> before = everything();
        thing(object).list.remove(entry);
        Set<List<Integer>> after = everything();
        thing(object).list.add(entry, taken);
        return before.equals(after);
    }

    int allRights() {
        return everything().size();
    }

    double openness() {
        return (double) allRights() / (4 * all.users * all.things.size());
    }

    // ---- log, history, slots

    int requests() {
        return all.requests.size();
    }

    int refusals() {
        int count = 0;
        for (Request request : all.requests) {
            count += request.allowed ? 0 : 1;
        }
        return count;
    }

    private Request request(int ago) {
        index(0 <= ago && ago < 8 && ago < all.requests.size());
        return all.requests.get(ago);
    }

    int userOfRequest(int ago) {
        return request(ago).user;
    }

    int objectOfRequest(int ago) {
        return request(ago).object;
    }

    boolean wasAllowed(int ago) {
        return request(ago).allowed;
    }

    int undo() {
        state(!history.isEmpty());
        all = history.removeLast();
        return history.size();
    }

    int save(int slot) {
        argument(slot == 0 || slot == 1);
        slots.put(slot, all.copy());
        return all.things.size();
    }

    int restore(int slot) {
        argument(slot == 0 || slot == 1);
        state(slots.containsKey(slot));
        change();
        all = slots.get(slot).copy();
        return all.things.size();
    }
}
