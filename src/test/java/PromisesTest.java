/** For each promise: ordinary calls, the edges that the document names, and wrong arguments. */
public final class PromisesTest extends Desks {

    private static final int[] ODD = {NONE, Integer.MIN_VALUE, Integer.MAX_VALUE, 1000, 32, 64, -32};

    public static void main(String[] args) {
        usersAndGroups();
        objects();
        entries();
        requests();
        texts();
        whatIsAllowed();
        log();
        historyAndSlots();
        Check.end();
    }

    private static void usersAndGroups() {
        newObject();
        addUser();
        addGroup();
        join();
        leave();
        nest();
        unnest();
        belongs();
    }

    private static void objects() {
        make();
        remove();
        move();
        giveTo();
        setMask();
        setInheriting();
        lookAtObjects();
    }

    private static void entries() {
        addEntries();
        removeEntry();
        moveEntry();
        lookAtEntries();
    }

    private static void requests() {
        ask();
        share();
    }

    private static void texts() {
        append();
        clear();
        fault();
        loadEntries();
        writeEntries();
        codeAt();
    }

    private static void whatIsAllowed() {
        isAllowed();
        inheriting();
        ownersAndGroups();
        rightsOf();
        deciding();
        isStoppedByMask();
        usersWith();
        rightsThrough();
        isNeedless();
        allRights();
    }

    private static void historyAndSlots() {
        undo();
        everyChangeRecords();
        refusedCallsChangeNothing();
        saveAndRestore();
    }

    private static void newObject() {
        Check.part("promise 1");
        PermissionDesk x = new PermissionDesk();
        Check.is(x.users(), 1);
        Check.is(x.groups(), 0);
        Check.is(x.objects(), 1);
        Check.is(x.isThere(0), true);
        Check.is(x.parentOf(0), NONE);
        Check.is(x.ownerOf(0), 0);
        Check.is(x.maskOf(0), 15);
        Check.is(x.isInheriting(0), true);
        Check.is(x.entriesOf(0), 0);
        Check.is(x.below(0), 0);
        Check.is(x.requests(), 0);
        Check.is(x.refusals(), 0);
        Check.is(x.fault(), 0);
        Check.is(x.clear(), 0);
        Check.is(x.codeAt(0), NONE);
        Check.is(x.rightsOf(0, 0), 15);
        Check.noState(() -> x.undo());
        Check.noState(() -> x.restore(0));
        Check.noState(() -> x.restore(1));
        Check.is(new PermissionDesk().addUser(), 1);
    }

    private static void addUser() {
        Check.part("promises 2 and 28");
        PermissionDesk x = new PermissionDesk();
        for (int user = 1; user < 12; user++) {
            Check.is(x.addUser(), user);
            Check.is(x.users(), user + 1);
        }
        Check.noState(() -> x.addUser());
        Check.is(x.users(), 12);
        Check.is(x.rightsOf(11, 0), 0);
        Check.noIndex(() -> x.rightsOf(12, 0));
    }

    private static void addGroup() {
        Check.part("promises 3 and 29");
        PermissionDesk x = desk(12, 0);
        for (int group = 0; group < 8; group++) {
            Check.is(x.groups(), group);
            Check.is(x.addGroup(), group);
            for (int user = 0; user < 12; user++) {
                Check.is(x.isMember(user, group), false);
            }
        }
        Check.noState(() -> x.addGroup());
        Check.is(x.groups(), 8);
        Check.noIndex(() -> x.isMember(0, 8));
    }

    private static void join() {
        Check.part("promises 4 and 30");
        PermissionDesk x = desk(12, 8);
        for (int user = 0; user < 12; user++) {
            Check.is(x.isMember(user, 7), false);
            Check.is(x.join(user, 7), user + 1);
            Check.is(x.isMember(user, 7), true);
            Check.is(x.isMember(user, 6), false);
        }
        Check.noState(() -> x.join(3, 7));
        Check.is(x.join(3, 6), 1);
        x.nest(6, 5);
        Check.is("the member of the inner group counts", x.join(4, 5), 2);
        Check.is("a member of the inner group, too", x.join(3, 5), 2);
        PermissionDesk y = desk(2, 1);
        Check.noIndex(() -> y.join(2, 0));
        Check.noIndex(() -> y.join(0, 1));
        for (int odd : ODD) {
            Check.noIndex(() -> y.join(odd, 0));
            Check.noIndex(() -> y.join(0, odd));
            Check.noIndex(() -> y.isMember(odd, 0));
            Check.noIndex(() -> y.isMember(0, odd));
        }
        Check.noIndex(() -> y.isMember(2, 0));
        Check.noIndex(() -> y.isMember(0, 1));
    }

    private static void leave() {
        Check.part("promise 5");
        PermissionDesk x = desk(4, 3);
        x.join(1, 0);
        x.join(2, 0);
        x.join(2, 1);
        x.nest(1, 0);
        Check.is("still a member of the inner group", x.leave(2, 0), 2);
        Check.is(x.isMember(2, 0), false);
        Check.is(x.belongs(2, 0), true);
        Check.is(x.leave(1, 0), 1);
        Check.is(x.leave(2, 1), 0);
        Check.noState(() -> x.leave(2, 1));
        Check.noState(() -> x.leave(3, 2));
        Check.noIndex(() -> x.leave(4, 0));
        Check.noIndex(() -> x.leave(0, 3));
        for (int odd : ODD) {
            Check.noIndex(() -> x.leave(odd, 0));
            Check.noIndex(() -> x.leave(0, odd));
        }
        x.join(1, 2);
        x.nest(2, 1);
        Check.noState(() -> x.leave(1, 1));
    }

    private static void nest() {
        Check.part("promises 6 and 31");
        PermissionDesk x = desk(5, 8);
        x.join(1, 0);
        x.join(2, 1);
        x.join(2, 2);
        Check.is(x.nest(0, 1), 2);
        Check.is(x.isNested(0, 1), true);
        Check.is(x.isNested(1, 0), false);
        Check.is(x.nest(1, 2), 2);
        Check.is("nested in one that is nested", x.isNested(0, 2), false);
        Check.noState(() -> x.nest(0, 0));
        Check.noState(() -> x.nest(0, 1));
        Check.noState(() -> x.nest(1, 0));
        Check.noState(() -> x.nest(2, 0));
        Check.is("a second way up", x.nest(0, 2), 2);
        Check.noIndex(() -> x.nest(8, 0));
        Check.noIndex(() -> x.nest(0, 8));
        for (int odd : ODD) {
            Check.noIndex(() -> x.nest(odd, 0));
            Check.noIndex(() -> x.nest(0, odd));
            Check.noIndex(() -> x.nest(odd, odd));
            Check.noIndex(() -> x.isNested(odd, 0));
            Check.noIndex(() -> x.isNested(0, odd));
        }
        Check.noIndex(() -> x.isNested(8, 0));
        Check.noIndex(() -> x.isNested(0, 8));
        chainOfGroups();
    }

    private static void chainOfGroups() {
        PermissionDesk x = desk(2, 8);
        x.join(1, 7);
        int[] order = {3, 5, 0, 6, 1, 4, 2};
        int inner = 7;
        for (int outer : order) {
            Check.is(x.nest(inner, outer), 1);
            inner = outer;
        }
        Check.noState(() -> x.nest(2, 7));
        for (int group = 0; group < 8; group++) {
            Check.is(x.belongs(1, group), true);
            Check.is(x.belongsByMembers(1, group), true);
            Check.is(x.belongs(0, group), false);
            Check.is(x.belongsByMembers(0, group), false);
        }
        x.unnest(0, 6);
        Check.is(x.belongs(1, 0), true);
        Check.is(x.belongs(1, 6), false);
        Check.is(x.belongsByMembers(1, 2), false);
        Check.is("no circle any more", x.nest(2, 7), 1);
    }

    private static void unnest() {
        Check.part("promise 7");
        PermissionDesk x = desk(4, 3);
        x.join(1, 0);
        x.join(2, 1);
        x.nest(0, 1);
        x.nest(1, 2);
        Check.noState(() -> x.unnest(1, 0));
        Check.noState(() -> x.unnest(0, 2));
        Check.noState(() -> x.unnest(0, 0));
        x.nest(0, 2);
        Check.is("the other way up is left", x.unnest(1, 2), 1);
        Check.is(x.isNested(1, 2), false);
        Check.is(x.isNested(0, 1), true);
        Check.is(x.unnest(0, 1), 1);
        Check.is(x.unnest(0, 2), 0);
        Check.noState(() -> x.unnest(0, 2));
        Check.noIndex(() -> x.unnest(3, 0));
        Check.noIndex(() -> x.unnest(0, 3));
        for (int odd : ODD) {
            Check.noIndex(() -> x.unnest(odd, 0));
            Check.noIndex(() -> x.unnest(0, odd));
        }
    }

    private static void belongs() {
        Check.part("promises 32 and 33");
        PermissionDesk x = desk(4, 4);
        x.join(1, 0);
        x.nest(0, 1);
        x.nest(0, 2);
        x.nest(2, 3);
        x.join(2, 3);
        boolean[][] due = {
            {false, false, false, false}, {true, true, true, true},
            {false, false, false, true}, {false, false, false, false}};
        for (int user = 0; user < 4; user++) {
            for (int group = 0; group < 4; group++) {
                Check.is(x.belongs(user, group), due[user][group]);
                Check.is(x.belongsByMembers(user, group), due[user][group]);
            }
        }
        Check.noIndex(() -> x.belongs(4, 0));
        Check.noIndex(() -> x.belongs(0, 4));
        Check.noIndex(() -> x.belongsByMembers(4, 0));
        Check.noIndex(() -> x.belongsByMembers(0, 4));
        for (int odd : ODD) {
            Check.noIndex(() -> x.belongs(odd, 0));
            Check.noIndex(() -> x.belongs(0, odd));
            Check.noIndex(() -> x.belongsByMembers(odd, 0));
            Check.noIndex(() -> x.belongsByMembers(0, odd));
        }
    }

    private static void make() {
        Check.part("promise 8");
        PermissionDesk x = desk(3, 0);
        for (int object = 1; object < 20; object++) {
            Check.is(x.make(object / 2, object % 3), object);
            Check.is(x.parentOf(object), object / 2);
            Check.is(x.ownerOf(object), object % 3);
            Check.is(x.maskOf(object), 15);
            Check.is(x.isInheriting(object), true);
            Check.is(x.entriesOf(object), 0);
            Check.is(x.objects(), object + 1);
        }
        Check.noState(() -> x.make(0, 0));
        Check.noIndex(() -> x.make(0, 3));
        Check.noIndex(() -> x.make(20, 0));
        x.setMask(15, 1);
        x.setInheriting(15, false);
        x.addForAll(15, 1, true, false);
        x.remove(17);
        x.remove(15);
        Check.noIndex(() -> x.make(15, 0));
        Check.is("the lowest free number", x.make(19, 2), 15);
        Check.is("nothing of the former one is left", x.maskOf(15), 15);
        Check.is(x.isInheriting(15), true);
        Check.is(x.entriesOf(15), 0);
        Check.is(x.parentOf(15), 19);
        Check.is(x.make(15, 1), 17);
        for (int odd : ODD) {
            Check.noIndex(() -> x.make(odd, 0));
            Check.noIndex(() -> x.make(0, odd));
        }
    }

    private static void remove() {
        Check.part("promise 9");
        PermissionDesk x = desk(2, 0);
        x.make(0, 1);
        x.make(1, 1);
        Check.noState(() -> x.remove(0));
        Check.noState(() -> x.remove(1));
        Check.is(x.remove(2), 2);
        Check.is(x.isThere(2), false);
        Check.noIndex(() -> x.remove(2));
        Check.is(x.remove(1), 1);
        Check.noState(() -> x.remove(0));
        Check.noIndex(() -> x.remove(20));
        for (int odd : ODD) {
            Check.noIndex(() -> x.remove(odd));
        }
        x.make(0, 1);
        x.addForAll(1, 15, true, true);
        x.remove(1);
        x.undo();
        Check.is("the list comes back with the object", list(x, 1), "1:+a=rwxm*");
    }

    private static void move() {
        Check.part("promise 10");
        PermissionDesk x = desk(2, 0);
        x.make(0, 0);
        x.make(1, 0);
        x.make(2, 0);
        x.make(0, 0);
        Check.noState(() -> x.move(0, 1));
        Check.noState(() -> x.move(0, 0));
        Check.noState(() -> x.move(1, 1));
        Check.noState(() -> x.move(1, 2));
        Check.noState(() -> x.move(1, 3));
        Check.is("to the parent that it has", x.move(2, 1), 1);
        Check.is(x.move(2, 4), 1);
        Check.is(x.parentOf(2), 4);
        Check.is("what is below comes along", x.parentOf(3), 2);
        Check.is(x.below(4), 2);
        Check.is(x.below(1), 0);
        Check.is(x.move(1, 3), 0);
        Check.is(x.below(4), 3);
        Check.noState(() -> x.move(4, 1));
        Check.is("to one that is higher up", x.move(1, 2), 3);
        Check.noIndex(() -> x.move(5, 0));
        Check.noIndex(() -> x.move(1, 5));
        Check.noIndex(() -> x.move(0, 5));
        for (int odd : ODD) {
            Check.noIndex(() -> x.move(odd, 0));
            Check.noIndex(() -> x.move(1, odd));
        }
    }

    private static void giveTo() {
        Check.part("promise 11");
        PermissionDesk x = desk(12, 0);
        x.make(0, 2);
        Check.is(x.giveTo(1, 11), 2);
        Check.is(x.ownerOf(1), 11);
        Check.is(x.giveTo(1, 11), 11);
        Check.is(x.giveTo(0, 1), 0);
        Check.is(x.ownerOf(0), 1);
        Check.is("who owns may manage", x.rightsOf(1, 0), 8);
        Check.noIndex(() -> x.giveTo(2, 0));
        Check.noIndex(() -> x.giveTo(0, 12));
        for (int odd : ODD) {
            Check.noIndex(() -> x.giveTo(odd, 0));
            Check.noIndex(() -> x.giveTo(0, odd));
        }
    }

    private static void setMask() {
        Check.part("promise 12");
        PermissionDesk x = desk(2, 0);
        x.make(0, 0);
        Check.is(x.setMask(1, 0), 15);
        Check.is(x.maskOf(1), 0);
        Check.is(x.maskOf(0), 15);
        Check.is(x.setMask(1, 15), 0);
        Check.is(x.setMask(1, 9), 15);
        Check.is(x.setMask(1, 9), 9);
        Check.noArgument(() -> x.setMask(1, 16));
        Check.noArgument(() -> x.setMask(1, -1));
        Check.noIndex(() -> x.setMask(2, 16));
        for (int odd : ODD) {
            Check.noIndex(() -> x.setMask(odd, 0));
            Check.noArgument(() -> x.setMask(1, odd));
        }
        Check.is(x.maskOf(1), 9);
    }

    private static void setInheriting() {
        Check.part("promise 13");
        PermissionDesk x = desk(2, 0);
        x.make(0, 1);
        Check.is(x.setInheriting(1, false), true);
        Check.is(x.isInheriting(1), false);
        Check.is(x.isInheriting(0), true);
        Check.is(x.setInheriting(1, false), false);
        Check.is(x.setInheriting(1, true), false);
        Check.is(x.isInheriting(1), true);
        Check.is(x.setInheriting(0, false), true);
        Check.is(x.isInheriting(0), false);
        x.addForAll(0, 1, true, true);
        Check.is("for the object 0 it does not matter", x.rightsOf(1, 0), 1);
        Check.is(x.rightsOf(1, 1), 9);
        for (int odd : ODD) {
            Check.noIndex(() -> x.setInheriting(odd, true));
        }
        Check.noIndex(() -> x.setInheriting(2, false));
    }

    private static void lookAtObjects() {
        Check.part("promises 34 to 40");
        PermissionDesk x = desk(2, 0);
        x.make(0, 1);
        x.make(1, 0);
        x.make(1, 0);
        x.make(3, 0);
        x.remove(2);
        Check.is(x.objects(), 4);
        int[] below = {3, 2, NONE, 1, 0};
        for (int object = 0; object < 5; object++) {
            boolean isThere = object != 2;
            Check.is(x.isThere(object), isThere);
            if (isThere) {
                Check.is(x.below(object), below[object]);
            }
        }
        for (int odd : new int[] {2, 5, 20, NONE, 32, 33, -32, Integer.MIN_VALUE, Integer.MAX_VALUE}) {
            Check.is(x.isThere(odd), false);
            Check.noIndex(() -> x.parentOf(odd));
            Check.noIndex(() -> x.ownerOf(odd));
            Check.noIndex(() -> x.maskOf(odd));
            Check.noIndex(() -> x.isInheriting(odd));
            Check.noIndex(() -> x.below(odd));
            Check.noIndex(() -> x.entriesOf(odd));
        }
    }

    private static void addEntries() {
        Check.part("promises 14 to 17");
        PermissionDesk x = desk(12, 8);
        x.make(0, 1);
        Check.is(x.addForUser(1, 11, 15, true, true), 1);
        Check.is(x.addForGroup(1, 7, 2, false, false), 2);
        Check.is(x.addForOwner(1, 1, true, false), 3);
        Check.is(x.addForAll(1, 8, false, true), 4);
        Check.is(x.addForUser(1, 0, 4, false, false), 5);
        Check.is(x.addForGroup(1, 0, 6, true, true), 6);
        Check.is(list(x, 1), "1:+u11=rwxm*;-g7=w;+o=r;-a=m*;-u0=x;+g0=wx*");
        Check.is(x.entriesOf(1), 6);
        Check.is(x.entriesOf(0), 0);
        Check.noState(() -> x.addForUser(1, 0, 1, true, true));
        Check.noState(() -> x.addForGroup(1, 0, 1, true, true));
        Check.noState(() -> x.addForOwner(1, 1, true, true));
        Check.noState(() -> x.addForAll(1, 1, true, true));
        Check.noArgument(() -> x.addForUser(1, 0, 0, true, true));
        Check.noIndex(() -> x.addForUser(1, 12, 0, true, true));
        wrongRights(desk(12, 8));
        wrongNumbers(desk(2, 1));
    }

    private static void wrongRights(PermissionDesk x) {
        for (int rights : new int[] {0, 16, -1, 31, Integer.MIN_VALUE, Integer.MAX_VALUE}) {
            Check.noArgument(() -> x.addForUser(0, 0, rights, true, true));
            Check.noArgument(() -> x.addForGroup(0, 0, rights, true, true));
            Check.noArgument(() -> x.addForOwner(0, rights, true, true));
            Check.noArgument(() -> x.addForAll(0, rights, true, true));
            Check.noIndex(() -> x.addForUser(1, 0, rights, true, true));
            Check.noIndex(() -> x.addForGroup(1, 0, rights, true, true));
            Check.noIndex(() -> x.addForOwner(1, rights, true, true));
            Check.noIndex(() -> x.addForAll(1, rights, true, true));
        }
        Check.is(x.entriesOf(0), 0);
        for (int entry = 1; entry <= 6; entry++) {
            Check.is(x.addForAll(0, 1, true, true), entry);
        }
        Check.noArgument(() -> x.addForGroup(0, 0, 0, true, true));
        Check.noArgument(() -> x.addForOwner(0, 16, true, true));
        Check.noArgument(() -> x.addForAll(0, 0, true, true));
    }

    private static void wrongNumbers(PermissionDesk x) {
        Check.noIndex(() -> x.addForUser(0, 2, 1, true, true));
        Check.noIndex(() -> x.addForGroup(0, 1, 1, true, true));
        for (int odd : ODD) {
            Check.noIndex(() -> x.addForUser(odd, 0, 1, true, true));
            Check.noIndex(() -> x.addForUser(0, odd, 1, true, true));
            Check.noIndex(() -> x.addForGroup(odd, 0, 1, true, true));
            Check.noIndex(() -> x.addForGroup(0, odd, 1, true, true));
            Check.noIndex(() -> x.addForOwner(odd, 1, true, true));
            Check.noIndex(() -> x.addForAll(odd, 1, true, true));
        }
    }

    private static void removeEntry() {
        Check.part("promise 18");
        PermissionDesk x = desk(7, 0);
        for (int user = 0; user < 6; user++) {
            x.addForUser(0, user, 1, true, false);
        }
        Check.noIndex(() -> x.removeEntry(0, 6));
        Check.is(x.removeEntry(0, 2), 5);
        Check.is(list(x, 0), "0:+u0=r;+u1=r;+u3=r;+u4=r;+u5=r");
        Check.is(x.removeEntry(0, 4), 4);
        Check.is(x.removeEntry(0, 0), 3);
        Check.is(list(x, 0), "0:+u1=r;+u3=r;+u4=r");
        Check.noIndex(() -> x.removeEntry(0, 3));
        x.removeEntry(0, 0);
        x.removeEntry(0, 0);
        Check.is(x.removeEntry(0, 0), 0);
        Check.noIndex(() -> x.removeEntry(0, 0));
        for (int odd : ODD) {
            Check.noIndex(() -> x.removeEntry(odd, 0));
            Check.noIndex(() -> x.removeEntry(0, odd));
        }
    }

    private static void moveEntry() {
        Check.part("promise 19");
        PermissionDesk x = desk(6, 0);
        for (int user = 1; user < 6; user++) {
            x.addForUser(0, user, user, user % 2 == 0, false);
        }
        Check.is(x.moveEntry(0, 0, 4), 0);
        Check.is(list(x, 0), "0:+u2=w;-u3=rw;+u4=x;-u5=rx;-u1=r");
        Check.is(x.moveEntry(0, 3, 1), 0);
        Check.is(list(x, 0), "0:+u2=w;-u5=rx;-u3=rw;+u4=x;-u1=r");
        Check.is(x.moveEntry(0, 2, 2), 0);
        Check.is(list(x, 0), "0:+u2=w;-u5=rx;-u3=rw;+u4=x;-u1=r");
        Check.noIndex(() -> x.moveEntry(0, 5, 0));
        Check.noIndex(() -> x.moveEntry(0, 0, 5));
        Check.noIndex(() -> x.moveEntry(1, 0, 0));
        for (int odd : ODD) {
            Check.noIndex(() -> x.moveEntry(odd, 0, 0));
            Check.noIndex(() -> x.moveEntry(0, odd, 0));
            Check.noIndex(() -> x.moveEntry(0, 0, odd));
        }
        gainsAndLosses();
    }

    private static void gainsAndLosses() {
        PermissionDesk x = desk(4, 0);
        x.make(0, 0);
        type(x, "0:+u1=rw*;-a=rx*;+u2=rx*");
        x.loadEntries();
        Check.is(x.rightsOf(1, 0), 3);
        Check.is(x.rightsOf(2, 0), 0);
        Check.is("user 2 gains two rights at both objects", x.moveEntry(0, 2, 0), 4);
        Check.is("users 1 and 2 lose theirs to read and run", x.moveEntry(0, 2, 0), 6);
        Check.is(x.rightsOf(1, 1), 2);
        Check.is("both gain them again", x.moveEntry(0, 0, 2), 6);
        Check.is(list(x, 0), "0:+u2=rx*;+u1=rw*;-a=rx*");
        PermissionDesk y = desk(3, 1);
        y.join(1, 0);
        type(y, "0:+u1=r;-g0=rw;+a=w");
        y.loadEntries();
        Check.is("one right is lost, another one gained", y.moveEntry(0, 1, 2), 1);
        Check.is(y.moveEntry(0, 2, 0), 2);
        type(y, "0:-u1=r;+u1=rw;-u1=w");
        y.loadEntries();
        Check.is("gains count as losses do", y.moveEntry(0, 1, 0), 1);
        Check.is(y.moveEntry(0, 0, 2), 2);
    }

    private static void lookAtEntries() {
        Check.part("promises 41 to 47");
        PermissionDesk x = desk(12, 8);
        x.make(0, 1);
        type(x, "1:+u11=rwxm*;-g7=w;+o=r*;-a=m;+u0=xm;-g0=rm*");
        Check.is(x.loadEntries(), 6);
        int[] users = {11, NONE, NONE, NONE, 0, NONE};
        int[] groups = {NONE, 7, NONE, NONE, NONE, 0};
        int[] rights = {15, 2, 1, 8, 12, 9};
        for (int entry = 0; entry < 6; entry++) {
            Check.is(x.isAllowing(1, entry), entry % 2 == 0);
            Check.is(x.rightsOfEntry(1, entry), rights[entry]);
            Check.is(x.userOfEntry(1, entry), users[entry]);
            Check.is(x.groupOfEntry(1, entry), groups[entry]);
            Check.is(x.isForOwner(1, entry), entry == 2);
            Check.is(x.isForBelow(1, entry), entry == 0 || entry == 2 || entry == 5);
        }
        x.removeEntry(1, 5);
        int[][] wrong = {{1, 5}, {1, 6}, {1, NONE}, {0, 0}, {2, 0}, {NONE, 0}, {20, 0},
            {1, Integer.MAX_VALUE}, {1, Integer.MIN_VALUE}, {Integer.MIN_VALUE, 0}};
        for (int[] pair : wrong) {
            Check.noIndex(() -> x.isAllowing(pair[0], pair[1]));
            Check.noIndex(() -> x.rightsOfEntry(pair[0], pair[1]));
            Check.noIndex(() -> x.userOfEntry(pair[0], pair[1]));
            Check.noIndex(() -> x.groupOfEntry(pair[0], pair[1]));
            Check.noIndex(() -> x.isForOwner(pair[0], pair[1]));
            Check.noIndex(() -> x.isForBelow(pair[0], pair[1]));
            Check.noIndex(() -> x.isNeedless(pair[0], pair[1]));
        }
    }

    private static void ask() {
        Check.part("promise 20");
        PermissionDesk x = desk(3, 0);
        x.make(0, 1);
        x.addForAll(1, 1, true, false);
        Check.is(x.ask(2, 1, 0), true);
        Check.is(x.ask(2, 1, 1), false);
        Check.is(x.ask(1, 1, 3), true);
        Check.is(x.ask(0, 1, 2), true);
        Check.is(x.requests(), 4);
        Check.is(x.refusals(), 1);
        Check.noIndex(() -> x.ask(3, 0, 0));
        Check.noIndex(() -> x.ask(0, 2, 0));
        Check.noIndex(() -> x.ask(0, 2, 4));
        Check.noArgument(() -> x.ask(0, 0, 4));
        Check.noArgument(() -> x.ask(0, 0, -1));
        for (int odd : ODD) {
            Check.noIndex(() -> x.ask(odd, 0, 0));
            Check.noIndex(() -> x.ask(0, odd, 0));
            Check.noArgument(() -> x.ask(0, 0, odd));
        }
        Check.is("what is refused as a call is no request", x.requests(), 4);
        Check.is(x.userOfRequest(0), 0);
    }

    private static void share() {
        Check.part("promise 21");
        PermissionDesk x = desk(4, 0);
        x.make(0, 1);
        x.make(1, 0);
        Check.noState(() -> x.share(1, 1, 2, 1));
        Check.is("the owner may share what manages", x.share(1, 1, 2, 8), 8);
        Check.is(list(x, 1), "1:+u2=m");
        Check.is("and so may user 2 then", x.share(2, 1, 3, 8), 8);
        Check.noState(() -> x.share(2, 1, 3, 9));
        Check.is("it counts at this object alone", x.rightsOf(2, 2), 0);
        x.addForUser(1, 2, 1, true, false);
        Check.is("with the same one", x.share(2, 1, 2, 9), 9);
        Check.is(list(x, 1), "1:+u2=rm;+u3=m;+u2=m;+u2=r");
        Check.is(x.share(0, 1, 3, 15), 15);
        x.setMask(1, 7);
        Check.is("the mask stops what is shared", x.share(0, 1, 3, 15), 7);
        Check.is("the keeper has all rights", x.share(0, 0, 0, 1), 15);
        Check.noState(() -> x.share(0, 1, 3, 1));
        Check.noState(() -> x.share(2, 1, 3, 1));
        Check.is(x.requests(), 0);
        x.addForUser(2, 1, 1, true, false);
        Check.noState(() -> x.share(1, 2, 1, 1));
        wrongShares(x);
    }

    private static void wrongShares(PermissionDesk x) {
        Check.noIndex(() -> x.share(4, 0, 0, 0));
        Check.noIndex(() -> x.share(0, 3, 0, 0));
        Check.noIndex(() -> x.share(0, 0, 4, 0));
        Check.noArgument(() -> x.share(1, 0, 0, 0));
        Check.noArgument(() -> x.share(1, 0, 0, 16));
        for (int odd : ODD) {
            Check.noIndex(() -> x.share(odd, 0, 0, 1));
            Check.noIndex(() -> x.share(0, odd, 0, 1));
            Check.noIndex(() -> x.share(0, 0, odd, 1));
            Check.noArgument(() -> x.share(0, 0, 0, odd));
        }
    }

    private static void append() {
        Check.part("promise 22");
        PermissionDesk x = new PermissionDesk();
        Check.is(x.append(33), 1);
        Check.is(x.append(126), 2);
        for (int wrong : new int[] {32, 127, 0, -1, 255, Integer.MIN_VALUE, Integer.MAX_VALUE}) {
            Check.noArgument(() -> x.append(wrong));
        }
        for (int length = 3; length <= 80; length++) {
            Check.is(x.append(40 + length / 2), length);
        }
        Check.noState(() -> x.append(33));
        Check.noArgument(() -> x.append(32));
        Check.is(x.codeAt(0), 33);
        Check.is(x.codeAt(1), 126);
        Check.is(x.codeAt(79), 80);
        Check.is("no change", Check.outcome(() -> x.undo()), IllegalStateException.class.getName());
    }

    private static void clear() {
        Check.part("promise 23");
        PermissionDesk x = new PermissionDesk();
        type(x, "hello");
        Check.is(x.clear(), 5);
        Check.is(x.clear(), 0);
        Check.is(x.codeAt(0), NONE);
        type(x, "0:");
        Check.is(x.fault(), NONE);
        for (int length = 3; length <= 80; length++) {
            x.append('!');
        }
        Check.is(x.clear(), 80);
        Check.is(x.append('!'), 1);
    }

    private static void fault() {
        Check.part("promise 24");
        Check.is(new PermissionDesk().fault(), 0);
        String[] right = {"0:", "9:", "10:", "19:", "0:+a=r", "0:-a=w", "0:+o=x*", "0:+u0=m",
            "0:+u9=r", "0:+u10=rw", "7:-u11=rwxm*", "0:+g0=rx", "0:+g7=wxm", "0:+a=rm;-o=wm*",
            "19:+u11=rwxm*;-u11=rwxm*;+u11=rwxm*;-u11=rwxm*;+u11=rwxm*;-u11=rwxm*"};
        for (String text : right) {
            PermissionDesk x = new PermissionDesk();
            type(x, text);
            Check.is(text, x.fault(), NONE);
            type(x, text + "!");
            Check.is(text + "!", x.fault(), text.length());
        }
        String[] open = {"0", "1", "19", "0:+", "0:-", "0:+u", "0:+u1", "0:+u11", "0:+g", "0:+g7",
            "0:+o", "0:-a", "0:+a=", "0:+a=r;", "0:+a=r*;", "0:+a=r;-", "0:+a=r;-o="};
        for (String text : open) {
            PermissionDesk x = new PermissionDesk();
            type(x, text);
            Check.is(text, x.fault(), text.length());
        }
        String[] wrong = {"|:", "0|0:", "0|1:", "2|0:", "1|a", "19|9:", "|a", "0|;", "0:|:", "|!",
            "0:|;", "0:|u0=r", "0:+|0=r", "0:+|=r", "0:+u|=r", "0:+u0|0=r", "0:+u0|1=r", "0:+u1|2=r",
            "0:+u2|0=r", "0:+u11|0=r", "0:+g|8=r", "0:+g|9=r", "0:+g1|0=r", "0:+g0|0=r", "0:+o|0=r",
            "0:+a|1=r", "0:+a=|*", "0:+a=|;", "0:+a=r|r", "0:+a=w|r", "0:+a=m|r", "0:+a=x|w",
            "0:+a=rm|x", "0:+a=r*|*", "0:+a=r*|w", "0:+a=r;|;", "0:+a=r;|*", "0:+a=r|:", "0:+|U0=r",
            "0:+a=|R", "0:+a=r;|a", "0:+a=r|+a=r", "0:+a|:", "0:+u1|:", "0:+|r", "|+a=r", "3|0:",
            "0:+a=r;+a=r;+a=r;+a=r;+a=r;+a=r|;", "0:+a=r;+a=r;+a=r;+a=r;+a=r;+a=r*|;+a=r"};
        for (String marked : wrong) {
            faultAt(marked);
        }
    }

    /** The bar stands ahead of the first character that is wrong. */
    private static void faultAt(String marked) {
        String text = marked.replace("|", "");
        PermissionDesk x = new PermissionDesk();
        type(x, text);
        Check.is(text, x.fault(), marked.indexOf('|'));
        type(x, text + "~~~");
        Check.is(text + "~~~", x.fault(), marked.indexOf('|'));
    }

    private static void loadEntries() {
        Check.part("promise 25");
        PermissionDesk x = desk(3, 2);
        x.make(0, 1);
        x.addForAll(1, 15, true, true);
        Check.noState(() -> x.loadEntries());
        type(x, "1:+u2=rx;-g1=m*");
        Check.is(x.loadEntries(), 2);
        Check.is("the pad is empty", x.clear(), 0);
        Check.is(list(x, 1), "1:+u2=rx;-g1=m*");
        type(x, "1:");
        Check.is(x.loadEntries(), 0);
        Check.is(x.entriesOf(1), 0);
        Check.is(x.fault(), 0);
        x.undo();
        Check.is(list(x, 1), "1:+u2=rx;-g1=m*");
        x.undo();
        Check.is(list(x, 1), "1:+a=rwxm*");
        wrongTexts();
        type(x, "1:+u2=r;+g1=r;+o=r;+a=r;+u0=r;+g0=r");
        Check.is(x.loadEntries(), 6);
        x.make(0, 0);
        type(x, "2:-a=r");
        Check.is(x.loadEntries(), 1);
        x.remove(2);
        type(x, "2:-a=r");
        Check.noState(() -> x.loadEntries());
    }

    private static void wrongTexts() {
        String[] wrong = {"2:", "19:+a=r", "1:+u3=r", "1:+g2=r", "1:+a=r;-u2=w;+u3=r", "1:+a=r;+g7=r",
            "1:+a", "1", "1:+a=r;", "1:+a=rr", "1:+u11=r", "1:+a=r!"};
        for (String text : wrong) {
            PermissionDesk x = desk(3, 2);
            x.make(0, 1);
            x.addForAll(1, 15, true, true);
            type(x, text);
            Check.noState(() -> x.loadEntries());
            Check.is("the pad stays", typed(x), text);
            Check.is(list(x, 1), "1:+a=rwxm*");
        }
    }

    private static void writeEntries() {
        Check.part("promise 26");
        PermissionDesk x = desk(12, 8);
        for (int object = 1; object < 20; object++) {
            x.make(0, 0);
        }
        type(x, "hello");
        Check.is(x.writeEntries(0), 2);
        Check.is(typed(x), "0:");
        Check.is(x.writeEntries(19), 3);
        Check.is(typed(x), "19:");
        for (int entry = 0; entry < 6; entry++) {
            x.addForUser(19, 10 + entry % 2, 15, entry % 2 == 0, true);
        }
        Check.is(x.writeEntries(19), 68);
        Check.is(typed(x), "19:+u10=rwxm*;-u11=rwxm*;+u10=rwxm*;-u11=rwxm*;+u10=rwxm*;-u11=rwxm*");
        Check.is(x.fault(), NONE);
        for (int rights = 1; rights < 16; rights++) {
            x.addForOwner(1, rights, false, false);
            x.writeEntries(1);
            String due = "1:-o=" + ((rights & 1) != 0 ? "r" : "") + ((rights & 2) != 0 ? "w" : "")
                    + ((rights & 4) != 0 ? "x" : "") + ((rights & 8) != 0 ? "m" : "");
            Check.is(typed(x), due);
            x.removeEntry(1, 0);
        }
        x.remove(18);
        type(x, "hello");
        Check.noIndex(() -> x.writeEntries(18));
        Check.noIndex(() -> x.writeEntries(20));
        for (int odd : ODD) {
            Check.noIndex(() -> x.writeEntries(odd));
        }
        Check.is("the pad stays", typed(x), "hello");
        PermissionDesk y = new PermissionDesk();
        y.writeEntries(0);
        Check.noState(() -> y.undo());
    }

    private static void codeAt() {
        Check.part("promise 27");
        PermissionDesk x = new PermissionDesk();
        type(x, "~!");
        Check.is(x.codeAt(0), 126);
        Check.is(x.codeAt(1), 33);
        Check.is(x.codeAt(2), NONE);
        Check.is(x.codeAt(79), NONE);
        Check.noArgument(() -> x.codeAt(80));
        Check.noArgument(() -> x.codeAt(-1));
        Check.noArgument(() -> x.codeAt(Integer.MIN_VALUE));
        Check.noArgument(() -> x.codeAt(Integer.MAX_VALUE));
        x.clear();
        Check.is(x.codeAt(0), NONE);
    }

    /** What both ways of telling answer; a fault is told if they differ. */
    private static boolean allowed(PermissionDesk x, int user, int object, int right) {
        boolean climbed = x.isAllowed(user, object, right);
        Check.is("by handing down", x.isAllowedByHandingDown(user, object, right), climbed);
        Check.is("in the set", (x.rightsOf(user, object) >> right & 1) == 1, climbed);
        return climbed;
    }

    private static void isAllowed() {
        Check.part("promises 48 and 49");
        PermissionDesk x = desk(4, 1);
        x.make(0, 1);
        for (int right = 0; right < 4; right++) {
            Check.is("the keeper", allowed(x, 0, 1, right), true);
            Check.is("the owner", allowed(x, 1, 1, right), right == 3);
            Check.is("another one", allowed(x, 2, 1, right), false);
        }
        type(x, "1:-u2=r;+a=rw;-a=rwxm");
        x.loadEntries();
        Check.is("the first one decides", allowed(x, 2, 1, 0), false);
        Check.is(allowed(x, 3, 1, 0), true);
        Check.is(allowed(x, 2, 1, 1), true);
        Check.is(allowed(x, 3, 1, 2), false);
        Check.is("no refusal for who owns", allowed(x, 1, 1, 3), true);
        Check.is("none for the keeper", allowed(x, 0, 1, 3), true);
        x.setMask(1, 0);
        Check.is("the mask stops", allowed(x, 3, 1, 1), false);
        Check.is("but not who owns", allowed(x, 1, 1, 3), true);
        Check.is("and not the keeper", allowed(x, 0, 1, 0), true);
        wrongQuestions(x);
    }

    private static void wrongQuestions(PermissionDesk x) {
        int[][] noIndex = {{4, 0, 0}, {0, 2, 0}, {4, 2, 4}, {NONE, 0, 0}, {0, NONE, 0}, {0, 20, -1},
            {Integer.MAX_VALUE, 0, 0}, {0, Integer.MIN_VALUE, 0}};
        for (int[] p : noIndex) {
            Check.noIndex(() -> x.isAllowed(p[0], p[1], p[2]));
            Check.noIndex(() -> x.isAllowedByHandingDown(p[0], p[1], p[2]));
            Check.noIndex(() -> x.decidingObject(p[0], p[1], p[2]));
            Check.noIndex(() -> x.decidingEntry(p[0], p[1], p[2]));
            Check.noIndex(() -> x.isStoppedByMask(p[0], p[1], p[2]));
            Check.noIndex(() -> x.rightsOf(p[0], p[1]));
        }
        for (int right : new int[] {4, -1, 32, Integer.MIN_VALUE, Integer.MAX_VALUE}) {
            Check.noArgument(() -> x.isAllowed(0, 0, right));
            Check.noArgument(() -> x.isAllowedByHandingDown(0, 0, right));
            Check.noArgument(() -> x.decidingObject(0, 0, right));
            Check.noArgument(() -> x.decidingEntry(0, 0, right));
            Check.noArgument(() -> x.isStoppedByMask(0, 0, right));
            Check.noArgument(() -> x.usersWith(0, right));
            Check.noIndex(() -> x.usersWith(2, right));
        }
        Check.noIndex(() -> x.usersWith(NONE, 0));
    }

    private static void inheriting() {
        PermissionDesk x = desk(3, 0);
        x.make(0, 0);
        x.make(1, 0);
        x.make(2, 0);
        type(x, "0:+a=r*;+a=w");
        x.loadEntries();
        Check.is(x.rightsOf(1, 0), 3);
        Check.is("what counts below, too", allowed(x, 1, 1, 0), true);
        Check.is("what does not", allowed(x, 1, 1, 1), false);
        Check.is(allowed(x, 1, 3, 0), true);
        x.addForUser(2, 1, 1, false, true);
        Check.is("the nearer list counts first", allowed(x, 1, 3, 0), false);
        Check.is(allowed(x, 1, 1, 0), true);
        Check.is(allowed(x, 2, 3, 0), true);
        x.setInheriting(1, false);
        Check.is("one between does not inherit", allowed(x, 2, 3, 0), false);
        Check.is(allowed(x, 2, 1, 0), false);
        Check.is(allowed(x, 2, 0, 0), true);
        x.addForAll(1, 4, true, true);
        Check.is(allowed(x, 2, 3, 2), true);
        x.setMask(1, 0);
        Check.is("the mask of the object alone counts", allowed(x, 2, 3, 2), true);
        Check.is(allowed(x, 2, 1, 2), false);
        x.move(3, 0);
        Check.is(allowed(x, 2, 3, 2), false);
        Check.is(allowed(x, 1, 3, 0), true);
        longChain();
    }

    private static void longChain() {
        PermissionDesk x = desk(2, 0);
        for (int object = 1; object < 20; object++) {
            x.make(object - 1, 0);
        }
        for (int object = 0; object < 20; object++) {
            for (int entry = 0; entry < 5; entry++) {
                x.addForUser(object, 0, 2, false, true);
            }
        }
        x.addForUser(0, 1, 5, true, true);
        Check.is("from the object 0 to the lowest", allowed(x, 1, 19, 2), true);
        Check.is(x.decidingObject(1, 19, 0), 0);
        Check.is(x.decidingEntry(1, 19, 0), 5);
        Check.is(x.below(0), 19);
        PermissionDesk y = desk(2, 0);
        for (int object = 1; object < 20; object++) {
            y.make(0, 0);
        }
        for (int object = 1; object < 19; object++) {
            y.move(object, object + 1);
        }
        y.addForAll(0, 1, true, true);
        Check.is("numbers that fall on the way down", allowed(y, 1, 1, 0), true);
        y.setInheriting(10, false);
        Check.is(allowed(y, 1, 1, 0), false);
        Check.is(allowed(y, 1, 11, 0), true);
    }

    private static void ownersAndGroups() {
        PermissionDesk x = desk(5, 3);
        x.make(0, 1);
        x.make(0, 2);
        x.giveTo(0, 3);
        x.addForOwner(0, 2, true, true);
        Check.is("the owner of the object at which it is asked", allowed(x, 1, 1, 1), true);
        Check.is(allowed(x, 2, 1, 1), false);
        Check.is(allowed(x, 2, 2, 1), true);
        Check.is(allowed(x, 3, 1, 1), false);
        Check.is(allowed(x, 3, 0, 1), true);
        x.giveTo(1, 4);
        Check.is("whoever that is then", allowed(x, 4, 1, 1), true);
        Check.is(allowed(x, 1, 1, 1), false);
        x.addForGroup(0, 2, 1, true, true);
        x.nest(0, 1);
        x.nest(1, 2);
        Check.is(allowed(x, 1, 1, 0), false);
        x.join(1, 0);
        Check.is("all who belong to the group", allowed(x, 1, 1, 0), true);
        x.unnest(1, 2);
        Check.is(allowed(x, 1, 1, 0), false);
        x.join(1, 2);
        Check.is(allowed(x, 1, 1, 0), true);
        x.addForGroup(1, 2, 1, false, false);
        Check.is(allowed(x, 1, 1, 0), false);
        Check.is(allowed(x, 1, 2, 0), true);
    }

    private static void rightsOf() {
        Check.part("promise 50");
        PermissionDesk x = desk(3, 0);
        x.make(0, 1);
        type(x, "1:+u2=rm;-a=m;+a=xm");
        x.loadEntries();
        Check.is(x.rightsOf(0, 1), 15);
        Check.is(x.rightsOf(1, 1), 12);
        Check.is(x.rightsOf(2, 1), 13);
        x.setMask(1, 6);
        Check.is(x.rightsOf(1, 1), 12);
        Check.is(x.rightsOf(2, 1), 4);
        Check.is(x.rightsOf(2, 0), 0);
        Check.noIndex(() -> x.rightsOf(3, 0));
        Check.noIndex(() -> x.rightsOf(0, 2));
    }

    private static void deciding() {
        Check.part("promises 51 and 52");
        PermissionDesk x = desk(3, 0);
        x.make(0, 1);
        x.make(1, 1);
        type(x, "0:+u2=r;-o=w;-a=rwx*");
        x.loadEntries();
        type(x, "2:+u1=m;-u2=rw;+u0=m");
        x.loadEntries();
        Check.is(x.decidingObject(2, 0, 0), 0);
        Check.is(x.decidingEntry(2, 0, 0), 0);
        Check.is("not the one that counts there alone", x.decidingEntry(2, 1, 0), 2);
        Check.is(x.decidingObject(2, 1, 0), 0);
        Check.is(x.decidingObject(2, 2, 1), 2);
        Check.is(x.decidingEntry(2, 2, 1), 1);
        Check.is("for the keeper, too", x.decidingObject(0, 2, 3), 2);
        Check.is(x.decidingEntry(0, 2, 3), 2);
        Check.is(x.decidingEntry(0, 0, 1), 1);
        Check.is("for the owner, too", x.decidingEntry(1, 2, 3), 0);
        Check.is(x.decidingObject(1, 2, 0), 0);
        Check.is("none", x.decidingObject(1, 1, 3), NONE);
        Check.is(x.decidingEntry(1, 1, 3), NONE);
        Check.is(x.decidingEntry(2, 2, 3), NONE);
        x.setInheriting(2, false);
        Check.is(x.decidingObject(1, 2, 0), NONE);
        Check.is(x.decidingEntry(1, 2, 0), NONE);
    }

    private static void isStoppedByMask() {
        Check.part("promise 53");
        PermissionDesk x = desk(3, 0);
        x.make(0, 1);
        type(x, "0:+a=rm*;-a=w*");
        x.loadEntries();
        x.setMask(0, 0);
        Check.is("the mask of the parent is none of it", x.isStoppedByMask(2, 1, 0), false);
        x.setMask(1, 0);
        Check.is(x.isStoppedByMask(2, 1, 0), true);
        Check.is(x.isStoppedByMask(2, 1, 3), true);
        Check.is("refused by an entry", x.isStoppedByMask(2, 1, 1), false);
        Check.is("no entry", x.isStoppedByMask(2, 1, 2), false);
        Check.is("the owner", x.isStoppedByMask(1, 1, 3), false);
        Check.is(x.isStoppedByMask(1, 1, 0), true);
        Check.is("the keeper", x.isStoppedByMask(0, 1, 0), false);
        x.setMask(1, 1);
        Check.is(x.isStoppedByMask(2, 1, 0), false);
        Check.is(x.isStoppedByMask(2, 1, 3), true);
    }

    private static void usersWith() {
        Check.part("promise 54");
        PermissionDesk x = desk(12, 1);
        x.make(0, 1);
        Check.is(x.usersWith(1, 0), 1);
        Check.is(x.usersWith(1, 3), 2);
        type(x, "1:-u2=r;+a=r;+u3=x");
        x.loadEntries();
        Check.is(x.usersWith(1, 0), 11);
        Check.is(x.usersWith(1, 1), 1);
        Check.is(x.usersWith(1, 2), 2);
        x.removeEntry(1, 0);
        Check.is(x.usersWith(1, 0), 12);
        Check.is(x.usersWith(0, 0), 1);
        Check.noIndex(() -> x.usersWith(2, 0));
        Check.noArgument(() -> x.usersWith(0, 4));
    }

    private static void rightsThrough() {
        Check.part("promise 55");
        PermissionDesk x = desk(4, 3);
        x.make(0, 1);
        x.make(1, 2);
        x.join(1, 0);
        x.join(2, 1);
        x.nest(0, 1);
        type(x, "0:+g1=rw*;+g0=x*;+a=rwxm");
        x.loadEntries();
        Check.is("two at three objects", x.rightsThrough(1, 1), 6);
        Check.is(x.rightsThrough(1, 0), 3);
        Check.is(x.rightsThrough(2, 1), 6);
        Check.is("who does not belong", x.rightsThrough(2, 0), 0);
        Check.is(x.rightsThrough(3, 1), 0);
        x.setMask(1, 1);
        Check.is("the mask stops one", x.rightsThrough(1, 1), 5);
        x.addForUser(2, 1, 1, true, false);
        Check.is("another entry decides there", x.rightsThrough(1, 1), 4);
        x.addForGroup(2, 1, 2, false, false);
        Check.is("the deciding entry refuses", x.rightsThrough(1, 1), 3);
        x.addForGroup(2, 1, 8, false, false);
        Check.is(x.rightsThrough(2, 1), 4);
        Check.is("manage is allowed, but not by it", x.rightsOf(2, 2) & 8, 8);
        x.setInheriting(1, false);
        Check.is(x.rightsThrough(1, 1), 2);
        x.join(0, 1);
        x.setMask(0, 0);
        Check.is("the keeper, whose rights no mask stops", x.rightsThrough(0, 1), 2);
        Check.is(x.rightsThrough(1, 1), 0);
        Check.noIndex(() -> x.rightsThrough(4, 0));
        Check.noIndex(() -> x.rightsThrough(0, 3));
        for (int odd : ODD) {
            Check.noIndex(() -> x.rightsThrough(odd, 0));
            Check.noIndex(() -> x.rightsThrough(0, odd));
        }
    }

    private static void isNeedless() {
        Check.part("promise 56");
        PermissionDesk x = desk(3, 1);
        x.make(0, 1);
        type(x, "0:-u2=r*;+a=r*;-a=w*;+u0=x;+o=m;-u1=m");
        Check.is(x.loadEntries(), 6);
        Check.is(x.isNeedless(0, 0), false);
        Check.is(x.isNeedless(0, 1), false);
        Check.is("it refuses what nobody would have", x.isNeedless(0, 2), true);
        Check.is("the keeper has it anyhow", x.isNeedless(0, 3), true);
        Check.is("so has the owner", x.isNeedless(0, 4), true);
        Check.is(x.isNeedless(0, 5), true);
        Check.is("nothing is changed", list(x, 0), "0:-u2=r*;+a=r*;-a=w*;+u0=x;+o=m;-u1=m");
        type(x, "1:+a=r");
        x.loadEntries();
        Check.is("it counts before the one of the parent", x.isNeedless(1, 0), false);
        x.removeEntry(0, 0);
        Check.is("the parent's does the same", x.isNeedless(1, 0), true);
        x.setMask(0, 0);
        Check.is("the mask stops it there, but below it counts no more", x.isNeedless(0, 0), true);
        x.removeEntry(1, 0);
        Check.is("it counts below alone", x.isNeedless(0, 0), false);
        x.addForGroup(1, 0, 2, true, false);
        Check.is("a group without members", x.isNeedless(1, 0), true);
        x.join(2, 0);
        Check.is(x.isNeedless(1, 0), false);
        x.undo();
        Check.is("it is no change", x.belongs(2, 0), false);
        Check.noIndex(() -> x.isNeedless(1, 1));
        Check.noIndex(() -> x.isNeedless(2, 0));
        Check.noIndex(() -> x.isNeedless(0, -1));
    }

    private static void allRights() {
        Check.part("promises 57 and 58");
        PermissionDesk x = new PermissionDesk();
        Check.is(x.allRights(), 4);
        Check.is(x.openness(), 1.0);
        x.addUser();
        x.addUser();
        Check.is(x.allRights(), 4);
        Check.is(x.openness(), 4.0 / 12.0);
        x.make(0, 1);
        Check.is(x.allRights(), 9);
        Check.is(x.openness(), 9.0 / 24.0);
        x.addForAll(0, 7, true, true);
        Check.is(x.allRights(), 21);
        Check.is(x.openness(), 21.0 / 24.0);
        x.addForAll(0, 8, true, true);
        Check.is(x.openness(), 1.0);
        x.setMask(1, 0);
        Check.is(x.allRights(), 17);
        x.remove(1);
        Check.is(x.allRights(), 12);
        PermissionDesk y = desk(12, 0);
        for (int object = 1; object < 20; object++) {
            y.make(object - 1, 11);
        }
        Check.is(y.allRights(), 99);
        Check.is(y.openness(), 99.0 / 960.0);
        y.addForAll(0, 15, true, true);
        Check.is(y.allRights(), 960);
    }

    private static void log() {
        Check.part("promises 59 to 63");
        PermissionDesk x = desk(12, 0);
        for (int object = 1; object < 20; object++) {
            x.make(0, object % 5);
        }
        Check.noIndex(() -> x.userOfRequest(0));
        Check.noIndex(() -> x.objectOfRequest(0));
        Check.noIndex(() -> x.wasAllowed(0));
        int refusals = 0;
        for (int n = 0; n < 20; n++) {
            Check.is(x.ask(n % 12, n, n % 4), isDue(n));
            refusals += isDue(n) ? 0 : 1;
            Check.is(x.requests(), n + 1);
            Check.is(x.refusals(), refusals);
            if (n < 2 || n >= 6 && n <= 9 || n == 19) {
                latestRequests(x, n);
            }
        }
        x.remove(19);
        Check.is("whether it is there still or not", x.objectOfRequest(0), 19);
        x.undo();
        x.undo();
        Check.is("undo takes the request back", x.requests(), 19);
        Check.is(x.refusals(), refusals - 1);
        Check.is(x.objectOfRequest(0), 18);
        latestRequests(x, 18);
        requestsComeBack();
    }

    /** The request that a later one has driven out of the log comes back with undo. */
    private static void requestsComeBack() {
        PermissionDesk x = desk(3, 0);
        x.make(0, 0);
        x.ask(0, 1, 0);
        for (int n = 0; n < 7; n++) {
            x.ask(2, 0, 0);
        }
        x.save(0);
        x.ask(1, 0, 1);
        Check.is(x.userOfRequest(7), 2);
        x.undo();
        Check.is(x.userOfRequest(7), 0);
        Check.is(x.objectOfRequest(7), 1);
        Check.is(x.wasAllowed(7), true);
        x.ask(1, 0, 1);
        x.restore(0);
        Check.is(x.userOfRequest(7), 0);
        Check.is(x.objectOfRequest(7), 1);
        Check.is(x.wasAllowed(7), true);
        Check.is(x.requests(), 8);
        Check.is(x.refusals(), 7);
    }

    /** The keeper may all; who owns the object n may manage. */
    private static boolean isDue(int n) {
        return n % 12 == 0 || n % 4 == 3 && n % 12 == n % 5;
    }

    private static void latestRequests(PermissionDesk x, int latest) {
        int kept = Math.min(latest + 1, 8);
        for (int ago = 0; ago < kept; ago++) {
            int n = latest - ago;
            Check.is(x.userOfRequest(ago), n % 12);
            Check.is(x.objectOfRequest(ago), n);
            Check.is(x.wasAllowed(ago), isDue(n));
        }
        for (int odd : new int[] {kept, 8, NONE, Integer.MIN_VALUE, Integer.MAX_VALUE}) {
            Check.noIndex(() -> x.userOfRequest(odd));
            Check.noIndex(() -> x.objectOfRequest(odd));
            Check.noIndex(() -> x.wasAllowed(odd));
        }
    }

    private static void undo() {
        Check.part("promise 64");
        PermissionDesk x = new PermissionDesk();
        Check.noState(() -> x.undo());
        for (int user = 1; user < 8; user++) {
            x.addUser();
        }
        for (int left = 4; left >= 0; left--) {
            Check.is(x.undo(), left);
            Check.is(x.users(), left + 3);
        }
        Check.noState(() -> x.undo());
        Check.is(x.users(), 3);
        type(x, "abc");
        x.addUser();
        Check.is(x.undo(), 0);
        Check.is("the pad stays", typed(x), "abc");
        x.save(0);
        x.addGroup();
        x.save(1);
        x.undo();
        Check.is("undo is no change", Check.outcome(() -> x.undo()), IllegalStateException.class.getName());
        Check.is("the slots stay", x.restore(1), 1);
        Check.is(x.groups(), 1);
    }

    /** Calls that are changes, each on a desk with an object 1 and an entry, and what undo does. */
    private static void everyChangeRecords() {
        Check.part("changes");
        for (int n = 0; n < 23; n++) {
            PermissionDesk x = desk(3, 3);
            x.make(0, 1);
            x.make(1, 1);
            type(x, "1:+a=r;-u1=w");
            x.loadEntries();
            x.join(1, 0);
            x.nest(0, 1);
            x.save(0);
            x.addUser();
            String before = seen(x);
            Check.is("change " + n, change(x, n), true);
            String after = seen(x);
            Check.is("change " + n + " records", x.undo(), 4);
            Check.is("change " + n + " is undone", seen(x), before);
            Check.is("change " + n + " is seen", after.equals(before), n == 21 || n == 22);
        }
    }

    private static boolean change(PermissionDesk x, int n) {
        switch (n) {
            case 0: return x.addUser() == 4;
            case 1: return x.addGroup() == 3;
            case 2: return x.join(2, 0) == 2;
            case 3: return x.leave(1, 0) == 0;
            case 4: return x.nest(1, 2) == 1;
            case 5: return x.unnest(0, 1) == 0;
            case 6: return x.make(0, 0) == 3;
            case 7: return x.remove(2) == 2;
            case 8: return x.move(2, 0) == 1;
            case 9: return x.giveTo(1, 2) == 1;
            case 10: return x.setMask(1, 3) == 15;
            case 11: return x.setInheriting(1, false);
            case 12: return x.addForUser(1, 0, 1, true, true) == 3;
            case 13: return x.addForGroup(1, 0, 1, true, true) == 3;
            case 14: return x.addForOwner(1, 1, true, true) == 3;
            case 15: return x.addForAll(1, 1, true, true) == 3;
            case 16: return x.removeEntry(1, 0) == 1;
            case 17: return x.moveEntry(1, 1, 0) == 0;
            case 18: return !x.ask(2, 1, 1);
            case 19: return x.share(0, 1, 2, 5) == 5;
            case 20: return x.restore(0) == 3;
            case 21: return x.giveTo(1, 1) == 1;
            default: return x.moveEntry(1, 0, 0) == 0;
        }
    }

    private static void refusedCallsChangeNothing() {
        Check.part("refused calls");
        PermissionDesk x = desk(12, 8);
        x.undo();
        x.undo();
        x.undo();
        x.undo();
        x.undo();
        type(x, "0:+");
        String before = seen(x);
        Check.noState(() -> x.addUser());
        Check.noState(() -> x.leave(0, 0));
        Check.noState(() -> x.unnest(0, 1));
        Check.noState(() -> x.nest(0, 0));
        Check.noIndex(() -> x.join(12, 0));
        Check.noIndex(() -> x.make(1, 0));
        Check.noState(() -> x.remove(0));
        Check.noState(() -> x.move(0, 0));
        Check.noIndex(() -> x.giveTo(1, 0));
        Check.noArgument(() -> x.setMask(0, 16));
        Check.noIndex(() -> x.setInheriting(1, false));
        Check.noArgument(() -> x.addForUser(0, 0, 0, true, true));
        Check.noArgument(() -> x.addForGroup(0, 0, 0, true, true));
        Check.noArgument(() -> x.addForOwner(0, 0, true, true));
        Check.noArgument(() -> x.addForAll(0, 0, true, true));
        Check.noIndex(() -> x.removeEntry(0, 0));
        Check.noIndex(() -> x.moveEntry(0, 0, 0));
        Check.noArgument(() -> x.ask(0, 0, 4));
        Check.noState(() -> x.share(1, 0, 0, 1));
        Check.noState(() -> x.loadEntries());
        Check.noState(() -> x.restore(0));
        Check.noArgument(() -> x.restore(2));
        Check.noState(() -> x.undo());
        Check.is(typed(x), "0:+");
        Check.is(seen(x), before);
    }

    private static void saveAndRestore() {
        Check.part("promises 65 and 66");
        PermissionDesk x = desk(2, 0);
        Check.noState(() -> x.restore(1));
        Check.is(x.save(1), 1);
        Check.noState(() -> x.restore(0));
        x.make(0, 1);
        x.addForAll(1, 3, true, false);
        x.ask(1, 1, 0);
        Check.is(x.save(0), 2);
        type(x, "abc");
        String second = seen(x);
        Check.is(x.restore(1), 1);
        Check.is(x.requests(), 0);
        Check.is("the pad stays", typed(x), "abc");
        Check.is(x.restore(0), 2);
        Check.is(seen(x), second);
        x.make(0, 0);
        x.setMask(1, 0);
        Check.is("a snapshot stays", x.restore(0), 2);
        Check.is(seen(x), second);
        x.undo();
        Check.is("restore is a change", x.objects(), 3);
        Check.is(x.save(0), 3);
        x.remove(2);
        Check.is("in place of the one that was", x.restore(0), 3);
        for (int odd : new int[] {2, NONE, Integer.MIN_VALUE, Integer.MAX_VALUE}) {
            Check.noArgument(() -> x.save(odd));
            Check.noArgument(() -> x.restore(odd));
        }
        PermissionDesk y = new PermissionDesk();
        y.save(0);
        Check.noState(() -> y.undo());
    }
}
