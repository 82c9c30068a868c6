import java.util.List;
import java.util.function.Supplier;

/** Desks that are always made by the same calls, and what there is on them. */
final class Stage {

    /** As it is made. */
    static final Stage BARE = new Stage("bare", Stage::bare, 1, 0, List.of(0), 0, 0, 0);
    /** One of everything; the history has 3 states, both slots a snapshot. */
    static final Stage ONE = new Stage("one", Stage::one, 1, 1, List.of(0), 0, 1, 1);
    /** Some of everything; the history has 5 states, the slot 0 a snapshot, the slot 1 none. */
    static final Stage SOME = new Stage("some", Stage::some, 3, 4, List.of(0, 1, 3), 1, 3, 3);
    /** The same, but the history has 2 states, and both slots a snapshot. */
    static final Stage YOUNG = new Stage("young", Stage::young, 2, 3, List.of(0, 1, 3), 1, 3, 1);
    /** Less of it, and the history has no state. */
    static final Stage QUIET = new Stage("quiet", Stage::quiet, 2, 3, List.of(0, 1, 3), 1, 0, 0);
    /** As much as there can be of users, groups, objects, entries of the object 19, and requests kept. */
    static final Stage FULL = new Stage("full", Stage::full, 12, 8, List.of(0, 1, 2, 3, 4, 5, 6, 7, 8, 9,
            10, 11, 12, 13, 14, 15, 16, 17, 18, 19), 19, 6, 8);
    /** Some of everything, and a pad with 80 characters. */
    static final Stage PADDED = new Stage("padded", Stage::padded, 3, 4, List.of(0, 1, 3), 1, 3, 3);

    final String name;
    final int users;
    final int groups;
    final List<Integer> objects;
    /** The object whose list has the entries. */
    final int listed;
    final int entries;
    final int kept;
    private final Supplier<PermissionDesk> maker;

    private Stage(String name, Supplier<PermissionDesk> maker, int users, int groups, List<Integer> objects,
            int listed, int entries, int kept) {
        this.name = name;
        this.maker = maker;
        this.users = users;
        this.groups = groups;
        this.objects = objects;
        this.listed = listed;
        this.entries = entries;
        this.kept = kept;
    }

    PermissionDesk desk() {
        return maker.get();
    }

    private static PermissionDesk bare() {
        return new PermissionDesk();
    }

    private static PermissionDesk one() {
        PermissionDesk x = new PermissionDesk();
        x.addGroup();
        x.addForAll(0, 1, true, true);
        x.ask(0, 0, 0);
        x.save(0);
        x.save(1);
        return x;
    }

    private static PermissionDesk base() {
        PermissionDesk x = Desks.desk(2, 3);
        x.join(1, 0);
        x.nest(0, 1);
        x.make(0, 1);
        x.make(1, 0);
        x.make(1, 0);
        x.remove(2);
        x.addForAll(0, 1, true, true);
        x.addForUser(1, 1, 3, true, true);
        x.addForGroup(1, 0, 2, false, false);
        x.addForOwner(1, 4, false, false);
        x.setMask(3, 7);
        x.setInheriting(3, false);
        x.save(0);
        return x;
    }

    private static PermissionDesk some() {
        PermissionDesk x = base();
        x.ask(1, 1, 0);
        x.addUser();
        x.ask(1, 1, 1);
        x.addGroup();
        x.ask(2, 3, 2);
        Desks.append(x, "1:+u9=r");
        return x;
    }

    private static PermissionDesk young() {
        PermissionDesk x = base();
        for (int n = 0; n < 5; n++) {
            x.undo();
        }
        x.restore(0);
        x.ask(1, 1, 0);
        x.save(1);
        Desks.append(x, "1:+a");
        return x;
    }

    private static PermissionDesk quiet() {
        PermissionDesk x = young();
        x.undo();
        x.undo();
        return x;
    }

    private static PermissionDesk full() {
        PermissionDesk x = Desks.desk(12, 8);
        x.join(11, 7);
        x.nest(7, 6);
        x.save(1);
        for (int object = 1; object < 20; object++) {
            x.make(object / 2, object % 12);
        }
        for (int entry = 0; entry < 6; entry++) {
            x.addForUser(19, entry, 1 + entry, entry % 2 == 0, entry % 3 == 0);
        }
        x.addForAll(0, 1, true, true);
        x.save(0);
        for (int n = 0; n < 10; n++) {
            x.ask(n % 4, 19 - n, n % 3);
        }
        Desks.append(x, "19:+a=rr");
        return x;
    }

    private static PermissionDesk padded() {
        PermissionDesk x = some();
        for (int length = 7; length < 80; length++) {
            x.append('!');
        }
        return x;
    }
}
