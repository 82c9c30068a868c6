import java.util.Arrays;

/**
 * Permission checker with groups and access lists: users, nested groups, objects one below the
 * other with lists of entries, requests that are logged, lists as texts, undo and two snapshots.
 */
public final class PermissionDesk {

    /** There is no such value. */
    public static final int NONE = -1;

    private static final int MOST_USERS = 12;
    private static final int MOST_GROUPS = 8;
    private static final int MOST_OBJECTS = 20;
    private static final int MOST_ENTRIES = 6;
    private static final int MOST_REQUESTS = 8;
    private static final int MOST_STATES = 5;
    private static final int MOST_SLOTS = 2;
    private static final int MOST_SIGNS = 80;
    private static final int FIRST_SIGN = 33;
    private static final int LAST_SIGN = 126;
    private static final int KEEPER = 0;
    private static final int ROOT = 0;
    private static final int RIGHTS = 4;
    private static final int MANAGE = 3;
    private static final int EVERY_RIGHT = 15;
    private static final int SET_SIZE = 32;
    private static final String RIGHT_SIGNS = "rwxm";
    private static final String KIND_SIGNS = "ugoa";

    private final State now = new State();
    private final History history = new History();
    private final State[] slots = new State[MOST_SLOTS];
    private final Judge judge = new Judge();
    private final Handing handing = new Handing();
    private final Pad pad = new Pad();
    private final ListText text = new ListText();

    /** Creates a desk with the keeper and the object 0. */
    public PermissionDesk() {
    }

    // ---- users, groups

    public int addUser() throws IllegalStateException {
        if (now.club.users >= MOST_USERS) {
            throw new IllegalStateException("there are 12 users");
        }
        history.keep(now);
        return now.club.takeUser();
    }

    public int addGroup() throws IllegalStateException {
        if (now.club.groups >= MOST_GROUPS) {
            throw new IllegalStateException("there are 8 groups");
        }
        history.keep(now);
        return now.club.takeGroup();
    }

    public int join(int user, int group) throws IndexOutOfBoundsException, IllegalStateException {
        requireUser(user);
        requireGroup(group);
        if (now.club.hasMember(group, user)) {
            throw new IllegalStateException("the user is a member already");
        }
        history.keep(now);
        now.club.setMember(group, user, true);
        return now.club.countUsersIn(group);
    }

    public int leave(int user, int group) throws IndexOutOfBoundsException, IllegalStateException {
        requireUser(user);
        requireGroup(group);
        if (!now.club.hasMember(group, user)) {
            throw new IllegalStateException("the user is no member");
        }
        history.keep(now);
        now.club.setMember(group, user, false);
        return now.club.countUsersIn(group);
    }

    public int nest(int inner, int outer) throws IndexOutOfBoundsException, IllegalStateException {
        requireGroup(inner);
        requireGroup(outer);
        if (inner == outer || now.club.hasInner(outer, inner) || now.club.isWithin(outer, inner)) {
            throw new IllegalStateException("the group can't be nested there");
        }
        history.keep(now);
        now.club.setInner(outer, inner, true);
        return now.club.countUsersIn(outer);
    }

    public int unnest(int inner, int outer) throws IndexOutOfBoundsException, IllegalStateException {
        requireGroup(inner);
        requireGroup(outer);
        if (!now.club.hasInner(outer, inner)) {
            throw new IllegalStateException("the group is not nested there");
        }
        history.keep(now);
        now.club.setInner(outer, inner, false);
        return now.club.countUsersIn(outer);
    }

    // ---- objects

    public int make(int parent, int owner) throws IndexOutOfBoundsException, IllegalStateException {
        requireObject(parent);
        requireUser(owner);
        int object = now.tree.lowestFree();
        if (object == NONE) {
            throw new IllegalStateException("there are 20 objects");
        }
        history.keep(now);
        now.tree.putObject(object, parent, owner);
        return object;
    }

    public int remove(int object) throws IndexOutOfBoundsException, IllegalStateException {
        requireObject(object);
        if (object == ROOT || now.tree.countUnder(object) > 0) {
            throw new IllegalStateException("the object can't be removed");
        }
        history.keep(now);
        now.tree.dropObject(object);
        now.lists.empty(object);
        return now.tree.count();
    }

    public int move(int object, int parent) throws IndexOutOfBoundsException, IllegalStateException {
        requireObject(object);
        requireObject(parent);
        if (object == ROOT || parent == object || now.tree.isUnder(parent, object)) {
            throw new IllegalStateException("the object can't be moved there");
        }
        history.keep(now);
        int before = now.tree.parentAt(object);
        now.tree.setParent(object, parent);
        return before;
    }

    public int giveTo(int object, int owner) throws IndexOutOfBoundsException {
        requireObject(object);
        requireUser(owner);
        history.keep(now);
        int before = now.tree.ownerAt(object);
        now.tree.setOwner(object, owner);
        return before;
    }

    public int setMask(int object, int rights) throws IndexOutOfBoundsException, IllegalArgumentException {
        requireObject(object);
        requireRights(rights, 0);
        history.keep(now);
        int before = now.tree.maskAt(object);
        now.tree.limitTo(object, rights);
        return before;
    }

    public boolean setInheriting(int object, boolean isInheriting) throws IndexOutOfBoundsException {
        requireObject(object);
        history.keep(now);
        boolean before = now.tree.inherits(object);
        now.tree.letInherit(object, isInheriting);
        return before;
    }

    // ---- entries

    public int addForUser(int object, int user, int rights, boolean isAllowing, boolean isForBelow)
            throws IndexOutOfBoundsException, IllegalArgumentException, IllegalStateException {
        requireObject(object);
        requireUser(user);
        return addLast(object, Entry.USER, user, rights, isAllowing, isForBelow);
    }

    public int addForGroup(int object, int group, int rights, boolean isAllowing, boolean isForBelow)
            throws IndexOutOfBoundsException, IllegalArgumentException, IllegalStateException {
        requireObject(object);
        requireGroup(group);
        return addLast(object, Entry.GROUP, group, rights, isAllowing, isForBelow);
    }

    public int addForOwner(int object, int rights, boolean isAllowing, boolean isForBelow)
            throws IndexOutOfBoundsException, IllegalArgumentException, IllegalStateException {
        requireObject(object);
        return addLast(object, Entry.OWNER, 0, rights, isAllowing, isForBelow);
    }

    public int addForAll(int object, int rights, boolean isAllowing, boolean isForBelow)
            throws IndexOutOfBoundsException, IllegalArgumentException, IllegalStateException {
        requireObject(object);
        return addLast(object, Entry.ALL, 0, rights, isAllowing, isForBelow);
    }

    public int removeEntry(int object, int entry) throws IndexOutOfBoundsException {
        requireEntry(object, entry);
        history.keep(now);
        now.lists.takeOut(object, entry);
        return now.lists.countAt(object);
    }

    public int moveEntry(int object, int entry, int place) throws IndexOutOfBoundsException {
        requireEntry(object, entry);
        requireEntry(object, place);
        history.keep(now);
        judge.keepTable(now);
        int code = now.lists.takeOut(object, entry);
        now.lists.putIn(object, place, code);
        return judge.countDifferences(now);
    }

    // ---- requests

    public boolean ask(int user, int object, int right)
            throws IndexOutOfBoundsException, IllegalArgumentException {
        requireUser(user);
        requireObject(object);
        requireRight(right);
        history.keep(now);
        boolean isGranted = judge.grants(now, user, object, right);
        now.log.put(user, object, isGranted);
        return isGranted;
    }

    public int share(int giver, int object, int user, int rights)
            throws IndexOutOfBoundsException, IllegalArgumentException, IllegalStateException {
        requireUser(giver);
        requireObject(object);
        requireUser(user);
        requireRights(rights, 1);
        int needed = rights | 1 << MANAGE;
        if ((judge.rightsAt(now, giver, object) & needed) != needed) {
            throw new IllegalStateException("the giver lacks one of these rights");
        }
        requireRoom(object);
        history.keep(now);
        now.lists.putIn(object, 0, Entry.code(Entry.USER, user, rights, true, false));
        return judge.rightsAt(now, user, object);
    }

    // ---- texts

    public int append(int code) throws IllegalArgumentException, IllegalStateException {
        if (code < FIRST_SIGN || code > LAST_SIGN) {
            throw new IllegalArgumentException("no code from 33 to 126");
        }
        if (pad.length >= MOST_SIGNS) {
            throw new IllegalStateException("the pad has 80 characters");
        }
        pad.put(code);
        return pad.length;
    }

    public int clear() {
        int before = pad.length;
        pad.wipe();
        return before;
    }

    public int fault() {
        return text.read(pad) ? NONE : text.at;
    }

    public int loadEntries() throws IllegalStateException {
        if (!text.read(pad)) {
            throw new IllegalStateException("the pad has a fault");
        }
        if (!text.isKnownTo(now)) {
            throw new IllegalStateException("the pad tells of what there is not");
        }
        history.keep(now);
        now.lists.empty(text.object);
        for (int entry = 0; entry < MOST_ENTRIES && entry < text.count; entry++) {
            now.lists.putIn(text.object, entry, text.entryAt(entry));
        }
        pad.wipe();
        return now.lists.countAt(text.object);
    }

    public int writeEntries(int object) throws IndexOutOfBoundsException {
        requireObject(object);
        text.write(pad, now.lists, object);
        return pad.length;
    }

    public int codeAt(int place) throws IllegalArgumentException {
        if (place < 0 || place >= MOST_SIGNS) {
            throw new IllegalArgumentException("no place from 0 to 79");
        }
        return pad.signAt(place);
    }

    // ---- users and groups as they are; nothing is changed

    public int users() {
        return now.club.users;
    }

    public int groups() {
        return now.club.groups;
    }

    public boolean isMember(int user, int group) throws IndexOutOfBoundsException {
        requireUser(user);
        requireGroup(group);
        return now.club.hasMember(group, user);
    }

    public boolean isNested(int inner, int outer) throws IndexOutOfBoundsException {
        requireGroup(inner);
        requireGroup(outer);
        return now.club.hasInner(outer, inner);
    }

    public boolean belongs(int user, int group) throws IndexOutOfBoundsException {
        requireUser(user);
        requireGroup(group);
        return has(now.club.groupsOver(user), group);
    }

    public boolean belongsByMembers(int user, int group) throws IndexOutOfBoundsException {
        requireUser(user);
        requireGroup(group);
        return has(now.club.usersIn(group), user);
    }

    // ---- objects as they are; nothing is changed

    public int objects() {
        return now.tree.count();
    }

    public boolean isThere(int object) {
        return now.tree.holds(object);
    }

    public int parentOf(int object) throws IndexOutOfBoundsException {
        requireObject(object);
        return now.tree.parentAt(object);
    }

    public int ownerOf(int object) throws IndexOutOfBoundsException {
        requireObject(object);
        return now.tree.ownerAt(object);
    }

    public int maskOf(int object) throws IndexOutOfBoundsException {
        requireObject(object);
        return now.tree.maskAt(object);
    }

    public boolean isInheriting(int object) throws IndexOutOfBoundsException {
        requireObject(object);
        return now.tree.inherits(object);
    }

    public int below(int object) throws IndexOutOfBoundsException {
        requireObject(object);
        return now.tree.countUnder(object);
    }

    // ---- entries as they are; nothing is changed

    public int entriesOf(int object) throws IndexOutOfBoundsException {
        requireObject(object);
        return now.lists.countAt(object);
    }

    public boolean isAllowing(int object, int entry) throws IndexOutOfBoundsException {
        requireEntry(object, entry);
        return Entry.allows(now.lists.entryAt(object, entry));
    }

    public int rightsOfEntry(int object, int entry) throws IndexOutOfBoundsException {
        requireEntry(object, entry);
        return Entry.rights(now.lists.entryAt(object, entry));
    }

    public int userOfEntry(int object, int entry) throws IndexOutOfBoundsException {
        requireEntry(object, entry);
        int code = now.lists.entryAt(object, entry);
        return Entry.kind(code) == Entry.USER ? Entry.number(code) : NONE;
    }

    public int groupOfEntry(int object, int entry) throws IndexOutOfBoundsException {
        requireEntry(object, entry);
        int code = now.lists.entryAt(object, entry);
        return Entry.kind(code) == Entry.GROUP ? Entry.number(code) : NONE;
    }

    public boolean isForOwner(int object, int entry) throws IndexOutOfBoundsException {
        requireEntry(object, entry);
        return Entry.kind(now.lists.entryAt(object, entry)) == Entry.OWNER;
    }

    public boolean isForBelow(int object, int entry) throws IndexOutOfBoundsException {
        requireEntry(object, entry);
        return Entry.countsBelow(now.lists.entryAt(object, entry));
    }

    // ---- what is allowed; nothing is changed

    public boolean isAllowed(int user, int object, int right)
            throws IndexOutOfBoundsException, IllegalArgumentException {
        requireUser(user);
        requireObject(object);
        requireRight(right);
        return judge.grants(now, user, object, right);
    }

    public boolean isAllowedByHandingDown(int user, int object, int right)
            throws IndexOutOfBoundsException, IllegalArgumentException {
        requireUser(user);
        requireObject(object);
        requireRight(right);
        return handing.grants(now, user, object, right);
    }

    public int rightsOf(int user, int object) throws IndexOutOfBoundsException {
        requireUser(user);
        requireObject(object);
        return judge.rightsAt(now, user, object);
    }

    public int decidingObject(int user, int object, int right)
            throws IndexOutOfBoundsException, IllegalArgumentException {
        requireUser(user);
        requireObject(object);
        requireRight(right);
        int place = judge.decidingPlace(now, user, object, right);
        return place == NONE ? NONE : place / MOST_ENTRIES;
    }

    public int decidingEntry(int user, int object, int right)
            throws IndexOutOfBoundsException, IllegalArgumentException {
        requireUser(user);
        requireObject(object);
        requireRight(right);
        int place = judge.decidingPlace(now, user, object, right);
        return place == NONE ? NONE : place % MOST_ENTRIES;
    }

    public boolean isStoppedByMask(int user, int object, int right)
            throws IndexOutOfBoundsException, IllegalArgumentException {
        requireUser(user);
        requireObject(object);
        requireRight(right);
        return judge.isStopped(now, user, object, right);
    }

    public int usersWith(int object, int right)
            throws IndexOutOfBoundsException, IllegalArgumentException {
        requireObject(object);
        requireRight(right);
        return judge.countUsers(now, object, right);
    }

    public int rightsThrough(int user, int group) throws IndexOutOfBoundsException {
        requireUser(user);
        requireGroup(group);
        return judge.countThrough(now, user, group);
    }

    public boolean isNeedless(int object, int entry) throws IndexOutOfBoundsException {
        requireEntry(object, entry);
        judge.keepTable(now);
        int code = now.lists.takeOut(object, entry);
        int differences = judge.countDifferences(now);
        now.lists.putIn(object, entry, code);
        return differences == 0;
    }

    public int allRights() {
        return judge.countAll(now);
    }

    public double openness() {
        int most = RIGHTS * now.club.users * now.tree.count();
        return most <= 0 ? 0.0 : (double) judge.countAll(now) / (double) most;
    }

    // ---- the log; nothing is changed

    public int requests() {
        return now.log.requests;
    }

    public int refusals() {
        return now.log.refusals;
    }

    public int userOfRequest(int ago) throws IndexOutOfBoundsException {
        requireRequest(ago);
        return now.log.userAt(ago);
    }

    public int objectOfRequest(int ago) throws IndexOutOfBoundsException {
        requireRequest(ago);
        return now.log.objectAt(ago);
    }

    public boolean wasAllowed(int ago) throws IndexOutOfBoundsException {
        requireRequest(ago);
        return now.log.wasGranted(ago);
    }

    // ---- history, slots

    public int undo() throws IllegalStateException {
        if (history.kept <= 0) {
            throw new IllegalStateException("the history has no state");
        }
        history.takeBack(now);
        return history.kept;
    }

    public int save(int slot) throws IllegalArgumentException {
        requireSlot(slot);
        State snapshot = slots[slot];
        if (snapshot == null) {
            snapshot = new State();
            slots[slot] = snapshot;
        }
        snapshot.copyFrom(now);
        return now.tree.count();
    }

    public int restore(int slot) throws IllegalArgumentException, IllegalStateException {
        requireSlot(slot);
        State snapshot = slots[slot];
        if (snapshot == null) {
            throw new IllegalStateException("there is no snapshot in the slot");
        }
        history.keep(now);
        now.copyFrom(snapshot);
        return now.tree.count();
    }

    // ---- what arguments have to be

    private void requireUser(int user) {
        if (!now.club.hasUser(user)) {
            throw new IndexOutOfBoundsException("no such user");
        }
    }

    private void requireGroup(int group) {
        if (!now.club.hasGroup(group)) {
            throw new IndexOutOfBoundsException("no such group");
        }
    }

    private void requireObject(int object) {
        if (!now.tree.holds(object)) {
            throw new IndexOutOfBoundsException("no such object");
        }
    }

    private void requireEntry(int object, int entry) {
        requireObject(object);
        if (!isIndex(entry, now.lists.countAt(object))) {
            throw new IndexOutOfBoundsException("no such entry");
        }
    }

    private void requireRequest(int ago) {
        if (!isIndex(ago, now.log.countKept())) {
            throw new IndexOutOfBoundsException("no such request in the log");
        }
    }

    private void requireRight(int right) {
        if (!isIndex(right, RIGHTS)) {
            throw new IllegalArgumentException("no right from 0 to 3");
        }
    }

    private void requireRights(int rights, int least) {
        if (rights < least || rights > EVERY_RIGHT) {
            throw new IllegalArgumentException("no such set of rights");
        }
    }

    private void requireSlot(int slot) {
        if (!isIndex(slot, slots.length)) {
            throw new IllegalArgumentException("no slot 0 or 1");
        }
    }

    private void requireRoom(int object) {
        if (now.lists.countAt(object) >= MOST_ENTRIES) {
            throw new IllegalStateException("the list has 6 entries");
        }
    }

    private int addLast(int object, int kind, int number, int rights, boolean allows, boolean below) {
        requireRights(rights, 1);
        requireRoom(object);
        history.keep(now);
        int code = Entry.code(kind, number, rights, allows, below);
        now.lists.putIn(object, now.lists.countAt(object), code);
        return now.lists.countAt(object);
    }

    private static boolean isIndex(int index, int length) {
        return index >= 0 && index < length;
    }

    private static boolean has(int set, int number) {
        return number >= 0 && number < SET_SIZE && (set >>> number & 1) == 1;
    }

    /** The set with the number, or without it. */
    private static int changed(int set, int number, boolean isIn) {
        return isIn ? set | 1 << number : set & ~(1 << number);
    }

    /** Users and groups; sets of them are told as bits. */
    private static final class Club {
        int users = 1;
        int groups = 0;
        private final int[] groupsOfUser = new int[MOST_USERS];
        private final int[] outersOfGroup = new int[MOST_GROUPS];

        void copyFrom(Club other) {
            users = other.users;
            groups = other.groups;
            System.arraycopy(other.groupsOfUser, 0, groupsOfUser, 0, MOST_USERS);
            System.arraycopy(other.outersOfGroup, 0, outersOfGroup, 0, MOST_GROUPS);
        }

        boolean hasUser(int user) {
            return isIndex(user, users);
        }

        boolean hasGroup(int group) {
            return isIndex(group, groups);
        }

        int takeUser() {
            int user = users;
            users++;
            return user;
        }

        int takeGroup() {
            int group = groups;
            groups++;
            return group;
        }

        boolean hasMember(int group, int user) {
            return isIndex(user, MOST_USERS) && has(groupsOfUser[user], group);
        }

        void setMember(int group, int user, boolean isIn) {
            if (isIndex(user, MOST_USERS)) {
                groupsOfUser[user] = changed(groupsOfUser[user], group, isIn);
            }
        }

        boolean hasInner(int outer, int inner) {
            return isIndex(inner, MOST_GROUPS) && has(outersOfGroup[inner], outer);
        }

        void setInner(int outer, int inner, boolean isIn) {
            if (isIndex(inner, MOST_GROUPS)) {
                outersOfGroup[inner] = changed(outersOfGroup[inner], outer, isIn);
            }
        }

        boolean isWithin(int inner, int outer) {
            return isIndex(inner, MOST_GROUPS) && has(climbFrom(outersOfGroup[inner]), outer);
        }

        /** The groups to which a user belongs, by climbing. */
        int groupsOver(int user) {
            return isIndex(user, MOST_USERS) ? climbFrom(groupsOfUser[user]) : 0;
        }

        private int climbFrom(int start) {
            int reached = start;
            for (int step = 0; step < groups; step++) {
                int before = reached;
                for (int group = 0; group < MOST_GROUPS; group++) {
                    if (has(before, group)) {
                        reached |= outersOfGroup[group];
                    }
                }
                if (reached == before) {
                    return reached;
                }
            }
            return reached;
        }

        /** The users who belong to a group, by the members of it and of the groups within it. */
        int usersIn(int group) {
            int inners = groupsUnder(group);
            int found = 0;
            for (int user = 0; user < MOST_USERS; user++) {
                if ((groupsOfUser[user] & inners) != 0) {
                    found |= 1 << user;
                }
            }
            return found;
        }

        private int groupsUnder(int outer) {
            int reached = 1 << outer;
            for (int step = 0; step < groups; step++) {
                int before = reached;
                for (int group = 0; group < MOST_GROUPS; group++) {
                    if ((outersOfGroup[group] & before) != 0) {
                        reached |= 1 << group;
                    }
                }
                if (reached == before) {
                    return reached;
                }
            }
            return reached;
        }

        int countUsersIn(int group) {
            return Integer.bitCount(usersIn(group));
        }
    }

    /** The objects, without their lists. */
    private static final class Tree {
        private int there = 1 << ROOT;
        private int inheriting = 1 << ROOT;
        private final int[] parents = new int[MOST_OBJECTS];
        private final int[] owners = new int[MOST_OBJECTS];
        private final int[] masks = new int[MOST_OBJECTS];

        Tree() {
            parents[ROOT] = NONE;
            owners[ROOT] = KEEPER;
            masks[ROOT] = EVERY_RIGHT;
        }

        void copyFrom(Tree other) {
            there = other.there;
            inheriting = other.inheriting;
            System.arraycopy(other.parents, 0, parents, 0, MOST_OBJECTS);
            System.arraycopy(other.owners, 0, owners, 0, MOST_OBJECTS);
            System.arraycopy(other.masks, 0, masks, 0, MOST_OBJECTS);
        }

        boolean holds(int object) {
            return object >= 0 && object < MOST_OBJECTS && (there >>> object & 1) == 1;
        }

        int count() {
            return Integer.bitCount(there);
        }

        int lowestFree() {
            for (int object = 0; object < MOST_OBJECTS; object++) {
                if (!has(there, object)) {
                    return object;
                }
            }
            return NONE;
        }

        void putObject(int object, int parent, int owner) {
            there = changed(there, object, true);
            setParent(object, parent);
            setOwner(object, owner);
            limitTo(object, EVERY_RIGHT);
            letInherit(object, true);
        }

        void dropObject(int object) {
            there = changed(there, object, false);
        }

        int parentAt(int object) {
            return holds(object) ? parents[object] : NONE;
        }

        int ownerAt(int object) {
            return holds(object) ? owners[object] : NONE;
        }

        int maskAt(int object) {
            return holds(object) ? masks[object] : 0;
        }

        boolean inherits(int object) {
            return has(inheriting, object);
        }

        void setParent(int object, int parent) {
            if (isIndex(object, MOST_OBJECTS)) {
                parents[object] = parent;
            }
        }

        void setOwner(int object, int owner) {
            if (isIndex(object, MOST_OBJECTS)) {
                owners[object] = owner;
            }
        }

        void limitTo(int object, int rights) {
            if (isIndex(object, MOST_OBJECTS)) {
                masks[object] = rights;
            }
        }

        void letInherit(int object, boolean isInheriting) {
            inheriting = changed(inheriting, object, isInheriting);
        }

        /** The object whose list counts behind the one of this object. */
        int nextUp(int object) {
            return inherits(object) ? parentAt(object) : NONE;
        }

        boolean isUnder(int object, int upper) {
            int at = parentAt(object);
            for (int level = 0; level < MOST_OBJECTS && at != NONE; level++) {
                if (at == upper) {
                    return true;
                }
                at = parentAt(at);
            }
            return false;
        }

        int countUnder(int upper) {
            int count = 0;
            for (int object = 0; object < MOST_OBJECTS; object++) {
                if (isUnder(object, upper)) {
                    count++;
                }
            }
            return count;
        }
    }

    /** An entry as one number, so that lists are rows of int; 0 stands for no entry. */
    private static final class Entry {
        static final int USER = 0;
        static final int GROUP = 1;
        static final int OWNER = 2;
        static final int ALL = 3;
        private static final int ALLOWS = 16;
        private static final int BELOW = 32;
        private static final int KIND_SHIFT = 6;
        private static final int NUMBER_SHIFT = 8;

        static int code(int kind, int number, int rights, boolean allows, boolean below) {
            int signs = (allows ? ALLOWS : 0) | (below ? BELOW : 0);
            return rights | signs | kind << KIND_SHIFT | number << NUMBER_SHIFT;
        }

        static int rights(int code) {
            return code & EVERY_RIGHT;
        }

        static boolean allows(int code) {
            return (code & ALLOWS) != 0;
        }

        static boolean countsBelow(int code) {
            return (code & BELOW) != 0;
        }

        static int kind(int code) {
            return code >>> KIND_SHIFT & 3;
        }

        static int number(int code) {
            return code >>> NUMBER_SHIFT;
        }

        static boolean isFor(int code, int user, int groups, boolean isOwner) {
            switch (kind(code)) {
                case USER:
                    return number(code) == user;
                case GROUP:
                    return has(groups, number(code));
                case OWNER:
                    return isOwner;
                default:
                    return true;
            }
        }
    }

    /** The lists of entries of all objects. */
    private static final class Lists {
        private final int[] counts = new int[MOST_OBJECTS];
        private final int[] entries = new int[MOST_OBJECTS * MOST_ENTRIES];

        void copyFrom(Lists other) {
            System.arraycopy(other.counts, 0, counts, 0, MOST_OBJECTS);
            System.arraycopy(other.entries, 0, entries, 0, MOST_OBJECTS * MOST_ENTRIES);
        }

        int countAt(int object) {
            return isIndex(object, MOST_OBJECTS) ? counts[object] : 0;
        }

        int entryAt(int object, int entry) {
            if (!isIndex(object, MOST_OBJECTS) || !isIndex(entry, MOST_ENTRIES)) {
                return 0;
            }
            return entries[object * MOST_ENTRIES + entry];
        }

        void empty(int object) {
            if (isIndex(object, MOST_OBJECTS)) {
                counts[object] = 0;
            }
        }

        void putIn(int object, int place, int code) {
            if (!isIndex(object, MOST_OBJECTS) || !isIndex(place, MOST_ENTRIES)
                    || counts[object] >= MOST_ENTRIES) {
                return;
            }
            for (int entry = MOST_ENTRIES - 1; entry > place; entry--) {
                setEntry(object, entry, entryAt(object, entry - 1));
            }
            setEntry(object, place, code);
            counts[object]++;
        }

        int takeOut(int object, int place) {
            if (!isIndex(object, MOST_OBJECTS) || !isIndex(place, counts[object])) {
                return 0;
            }
            int code = entryAt(object, place);
            for (int entry = place; entry < MOST_ENTRIES - 1; entry++) {
                setEntry(object, entry, entryAt(object, entry + 1));
            }
            counts[object]--;
            return code;
        }

        private void setEntry(int object, int entry, int code) {
            if (isIndex(object, MOST_OBJECTS) && isIndex(entry, MOST_ENTRIES)) {
                entries[object * MOST_ENTRIES + entry] = code;
            }
        }
    }

    /** The requests: how many there were, and the latest ones. */
    private static final class Log {
        int requests = 0;
        int refusals = 0;
        private int granted = 0;
        private final int[] users = new int[MOST_REQUESTS];
        private final int[] objects = new int[MOST_REQUESTS];

        void copyFrom(Log other) {
            requests = other.requests;
            refusals = other.refusals;
            granted = other.granted;
            System.arraycopy(other.users, 0, users, 0, MOST_REQUESTS);
            System.arraycopy(other.objects, 0, objects, 0, MOST_REQUESTS);
        }

        void put(int user, int object, boolean isGranted) {
            requests++;
            refusals += isGranted ? 0 : 1;
            int place = placeOf(0);
            users[place] = user;
            objects[place] = object;
            granted = changed(granted, place, isGranted);
        }

        int countKept() {
            return Math.min(requests, MOST_REQUESTS);
        }

        int userAt(int ago) {
            return users[placeOf(ago)];
        }

        int objectAt(int ago) {
            return objects[placeOf(ago)];
        }

        boolean wasGranted(int ago) {
            return has(granted, placeOf(ago));
        }

        private int placeOf(int ago) {
            return Math.floorMod(requests - 1 - ago, MOST_REQUESTS);
        }
    }

    /** All that undo and the slots bring back. */
    private static final class State {
        final Club club = new Club();
        final Tree tree = new Tree();
        final Lists lists = new Lists();
        final Log log = new Log();

        void copyFrom(State other) {
            if (other != null) {
                club.copyFrom(other.club);
                tree.copyFrom(other.tree);
                lists.copyFrom(other.lists);
                log.copyFrom(other.log);
            }
        }

        /** Whether a right is allowed, if this is the deciding entry (0: there is none). */
        boolean grants(int user, int object, int right, int decider) {
            return user == KEEPER
                    || right == MANAGE && tree.ownerAt(object) == user
                    || Entry.allows(decider) && has(tree.maskAt(object), right);
        }
    }

    /** The states before the latest changes, in rows that are used in turn. */
    private static final class History {
        int kept = 0;
        private int oldest = 0;
        private final State[] rows = new State[MOST_STATES];

        History() {
            for (int row = 0; row < MOST_STATES; row++) {
                rows[row] = new State();
            }
        }

        void keep(State state) {
            if (kept >= MOST_STATES) {
                oldest = Math.floorMod(oldest + 1, MOST_STATES);
                kept--;
            }
            State row = rows[Math.floorMod(oldest + kept, MOST_STATES)];
            if (row != null) {
                row.copyFrom(state);
            }
            kept++;
        }

        void takeBack(State state) {
            kept--;
            state.copyFrom(rows[Math.floorMod(oldest + kept, MOST_STATES)]);
        }
    }

    /** Tells what is allowed by climbing from an object to its parents. */
    private static final class Judge {
        private final int[] places = new int[RIGHTS];
        private final int[] deciders = new int[RIGHTS];
        private final int[] table = new int[MOST_USERS * MOST_OBJECTS];

        boolean grants(State state, int user, int object, int right) {
            return has(rightsAt(state, user, object), right);
        }

        /** The rights as a set; none if there is no such user or object. */
        int rightsAt(State state, int user, int object) {
            if (!state.club.hasUser(user) || !state.tree.holds(object)) {
                return 0;
            }
            decide(state, user, object);
            int set = 0;
            for (int right = 0; right < RIGHTS; right++) {
                if (state.grants(user, object, right, deciders[right])) {
                    set |= 1 << right;
                }
            }
            return set;
        }

        /** Object times MOST_ENTRIES plus entry; NONE if there is no deciding entry. */
        int decidingPlace(State state, int user, int object, int right) {
            decide(state, user, object);
            return isIndex(right, RIGHTS) ? places[right] : NONE;
        }

        boolean isStopped(State state, int user, int object, int right) {
            return !has(rightsAt(state, user, object), right)
                    && isIndex(right, RIGHTS) && Entry.allows(deciders[right]);
        }

        int countUsers(State state, int object, int right) {
            int count = 0;
            for (int user = 0; user < MOST_USERS && user < state.club.users; user++) {
                if (has(rightsAt(state, user, object), right)) {
                    count++;
                }
            }
            return count;
        }

        int countThrough(State state, int user, int group) {
            int count = 0;
            for (int object = 0; object < MOST_OBJECTS; object++) {
                int set = rightsAt(state, user, object);
                if (set != 0) {
                    count += Integer.bitCount(set & decidedFor(group));
                }
            }
            return count;
        }

        /** The rights that an entry for the group allows, after decide(). */
        private int decidedFor(int group) {
            int set = 0;
            for (int right = 0; right < RIGHTS; right++) {
                int code = deciders[right];
                if (Entry.allows(code) && Entry.kind(code) == Entry.GROUP && Entry.number(code) == group) {
                    set |= 1 << right;
                }
            }
            return set;
        }

        int countAll(State state) {
            int count = 0;
            for (int user = 0; user < MOST_USERS; user++) {
                for (int object = 0; object < MOST_OBJECTS; object++) {
                    count += Integer.bitCount(rightsAt(state, user, object));
                }
            }
            return count;
        }

        /** Keeps what is allowed, to be compared with what is allowed after a change. */
        void keepTable(State state) {
            for (int user = 0; user < MOST_USERS; user++) {
                for (int object = 0; object < MOST_OBJECTS; object++) {
                    table[user * MOST_OBJECTS + object] = rightsAt(state, user, object);
                }
            }
        }

        int countDifferences(State state) {
            int count = 0;
            for (int user = 0; user < MOST_USERS; user++) {
                for (int object = 0; object < MOST_OBJECTS; object++) {
                    int before = table[user * MOST_OBJECTS + object];
                    count += Integer.bitCount(before ^ rightsAt(state, user, object));
                }
            }
            return count;
        }

        /** Finds the deciding entries of all rights in one climb. */
        private void decide(State state, int user, int object) {
            Arrays.fill(places, NONE);
            Arrays.fill(deciders, 0);
            int groups = state.club.groupsOver(user);
            boolean isOwner = state.tree.ownerAt(object) == user;
            int open = EVERY_RIGHT;
            int at = object;
            for (int level = 0; level < MOST_OBJECTS && at != NONE && open != 0; level++) {
                int count = state.lists.countAt(at);
                for (int entry = 0; entry < MOST_ENTRIES && entry < count; entry++) {
                    int code = state.lists.entryAt(at, entry);
                    boolean counts = level == 0 || Entry.countsBelow(code);
                    if (counts && Entry.isFor(code, user, groups, isOwner)) {
                        settle(Entry.rights(code) & open, at * MOST_ENTRIES + entry, code);
                        open &= ~Entry.rights(code);
                    }
                }
                at = state.tree.nextUp(at);
            }
        }

        private void settle(int rights, int place, int code) {
            for (int right = 0; right < RIGHTS; right++) {
                if (has(rights, right)) {
                    places[right] = place;
                    deciders[right] = code;
                }
            }
        }
    }

    /** Tells what is allowed by handing lists down from the object 0. */
    private static final class Handing {
        private static final int LONGEST = MOST_OBJECTS * MOST_ENTRIES;

        private int reached = 0;
        private final int[] lengths = new int[MOST_OBJECTS];
        private final int[] lists = new int[MOST_OBJECTS * LONGEST];

        boolean grants(State state, int user, int object, int right) {
            handAllDown(state);
            return state.grants(user, object, right, decider(state, user, object, right));
        }

        private int decider(State state, int user, int object, int right) {
            int groups = state.club.groupsOver(user);
            boolean isOwner = state.tree.ownerAt(object) == user;
            for (int n = 0; n < LONGEST && n < lengthAt(object); n++) {
                int code = codeIn(object, n);
                if (has(Entry.rights(code), right) && Entry.isFor(code, user, groups, isOwner)) {
                    return code;
                }
            }
            return 0;
        }

        private void handAllDown(State state) {
            reached = 0;
            Arrays.fill(lengths, 0);
            takeOwn(state.lists, ROOT);
            // A round reaches one level more at least, so that the last round reaches the lowest.
            for (int round = 1; round < MOST_OBJECTS; round++) {
                for (int object = 1; object < MOST_OBJECTS; object++) {
                    int parent = state.tree.parentAt(object);
                    if (!has(reached, object) && has(reached, parent)) {
                        takeOwn(state.lists, object);
                        takeHanded(parent, object, state.tree.inherits(object));
                    }
                }
            }
        }

        private void takeOwn(Lists own, int object) {
            reached = changed(reached, object, true);
            int count = own.countAt(object);
            for (int entry = 0; entry < MOST_ENTRIES && entry < count; entry++) {
                putLast(object, own.entryAt(object, entry));
            }
        }

        private void takeHanded(int parent, int object, boolean inherits) {
            for (int n = 0; inherits && n < LONGEST && n < lengthAt(parent); n++) {
                int code = codeIn(parent, n);
                if (Entry.countsBelow(code)) {
                    putLast(object, code);
                }
            }
        }

        private int lengthAt(int object) {
            return isIndex(object, MOST_OBJECTS) ? lengths[object] : 0;
        }

        private int codeIn(int object, int n) {
            if (!isIndex(object, MOST_OBJECTS) || !isIndex(n, LONGEST)) {
                return 0;
            }
            return lists[object * LONGEST + n];
        }

        private void putLast(int object, int code) {
            if (isIndex(object, MOST_OBJECTS) && isIndex(lengths[object], LONGEST)) {
                lists[object * LONGEST + lengths[object]] = code;
                lengths[object]++;
            }
        }
    }

    /** The pad of characters. */
    private static final class Pad {
        int length = 0;
        private final int[] signs = new int[MOST_SIGNS];

        void wipe() {
            length = 0;
        }

        void put(int sign) {
            if (isIndex(length, MOST_SIGNS)) {
                signs[length] = sign;
                length++;
            }
        }

        void putNumber(int number) {
            if (number >= 10) {
                put('0' + number / 10);
            }
            put('0' + number % 10);
        }

        int signAt(int place) {
            return place >= 0 && place < length && place < MOST_SIGNS ? signs[place] : NONE;
        }
    }

    /** Reads and writes lists as texts. */
    private static final class ListText {
        int at = 0;
        int object = NONE;
        int count = 0;
        private final int[] entries = new int[MOST_ENTRIES];

        /** Whether the pad is a list as a text; if it is not, its fault is where the reading stopped. */
        boolean read(Pad pad) {
            at = 0;
            count = 0;
            object = takeNumber(pad, MOST_OBJECTS);
            if (object == NONE || !take(pad, ':')) {
                return false;
            }
            if (at == pad.length) {
                return true;
            }
            for (int n = 1; n <= MOST_ENTRIES; n++) {
                if (!takeEntry(pad)) {
                    return false;
                }
                if (n == MOST_ENTRIES || !take(pad, ';')) {
                    return at == pad.length;
                }
            }
            return false;
        }

        /** Whether there are the object, the users and the groups that were read. */
        boolean isKnownTo(State state) {
            if (!state.tree.holds(object)) {
                return false;
            }
            for (int entry = 0; entry < MOST_ENTRIES && entry < count; entry++) {
                int code = entries[entry];
                int number = Entry.number(code);
                if (Entry.kind(code) == Entry.USER && !state.club.hasUser(number)
                        || Entry.kind(code) == Entry.GROUP && !state.club.hasGroup(number)) {
                    return false;
                }
            }
            return true;
        }

        int entryAt(int entry) {
            return isIndex(entry, MOST_ENTRIES) ? entries[entry] : 0;
        }

        void write(Pad pad, Lists lists, int written) {
            pad.wipe();
            pad.putNumber(written);
            pad.put(':');
            int length = lists.countAt(written);
            for (int entry = 0; entry < MOST_ENTRIES && entry < length; entry++) {
                if (entry > 0) {
                    pad.put(';');
                }
                writeEntry(pad, lists.entryAt(written, entry));
            }
        }

        private void writeEntry(Pad pad, int code) {
            int kind = Entry.kind(code);
            pad.put(Entry.allows(code) ? '+' : '-');
            if (isIndex(kind, KIND_SIGNS.length())) {
                pad.put(KIND_SIGNS.charAt(kind));
            }
            if (kind == Entry.USER || kind == Entry.GROUP) {
                pad.putNumber(Entry.number(code));
            }
            pad.put('=');
            for (int right = 0; right < RIGHT_SIGNS.length(); right++) {
                if (has(Entry.rights(code), right)) {
                    pad.put(RIGHT_SIGNS.charAt(right));
                }
            }
            if (Entry.countsBelow(code)) {
                pad.put('*');
            }
        }

        private boolean takeEntry(Pad pad) {
            boolean allows = take(pad, '+');
            if (!allows && !take(pad, '-')) {
                return false;
            }
            int kind = takeKind(pad);
            int number = takeNumberOf(kind, pad);
            if (kind == NONE || number == NONE || !take(pad, '=')) {
                return false;
            }
            int rights = takeRights(pad);
            if (rights == 0 || !isIndex(count, MOST_ENTRIES)) {
                return false;
            }
            entries[count] = Entry.code(kind, number, rights, allows, take(pad, '*'));
            count++;
            return true;
        }

        private int takeKind(Pad pad) {
            for (int kind = 0; kind < KIND_SIGNS.length(); kind++) {
                if (take(pad, KIND_SIGNS.charAt(kind))) {
                    return kind;
                }
            }
            return NONE;
        }

        private int takeNumberOf(int kind, Pad pad) {
            if (kind == Entry.USER) {
                return takeNumber(pad, MOST_USERS);
            }
            return kind == Entry.GROUP ? takeNumber(pad, MOST_GROUPS) : 0;
        }

        private int takeRights(Pad pad) {
            int rights = 0;
            for (int right = 0; right < RIGHT_SIGNS.length(); right++) {
                if (take(pad, RIGHT_SIGNS.charAt(right))) {
                    rights |= 1 << right;
                }
            }
            return rights;
        }

        /** Takes a number below the limit, of one or two digits; NONE if none begins here. */
        private int takeNumber(Pad pad, int limit) {
            int first = digitAt(pad, at);
            if (first == NONE || first >= limit) {
                return NONE;
            }
            at++;
            int second = first == 0 ? NONE : digitAt(pad, at);
            if (second == NONE || first * 10 + second >= limit) {
                return first;
            }
            at++;
            return first * 10 + second;
        }

        private int digitAt(Pad pad, int place) {
            int sign = pad.signAt(place);
            return sign >= '0' && sign <= '9' ? sign - '0' : NONE;
        }

        private boolean take(Pad pad, int sign) {
            if (pad.signAt(at) != sign) {
                return false;
            }
            at++;
            return true;
        }
    }
}
