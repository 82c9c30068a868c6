/** Sentences of the promises 14 to 19 and 41 to 47: entries. */
final class EntrySentences extends Sentences {

    private static final String[] KINDS = {"one user", "a group", "the owner", "all users"};

    private EntrySentences() {
    }

    static void run() {
        for (int kind = 0; kind < KINDS.length; kind++) {
            add(kind, "Promise " + (14 + kind));
            addRefused(kind, "Promise " + (14 + kind));
        }
        removeEntry();
        moveEntry();
        moveEntryTells();
        entriesOf();
        isAllowing();
        rightsOfEntry();
        userOfEntry();
        groupOfEntry();
        isForOwner();
        isForBelow();
    }

    /** Adds an entry for the user 11, the group 7, the owner, or all. */
    private static int add(PermissionDesk x, int kind, int rights, boolean allows, boolean below) {
        switch (kind) {
            case 0: return x.addForUser(19, 11, rights, allows, below);
            case 1: return x.addForGroup(19, 7, rights, allows, below);
            case 2: return x.addForOwner(19, rights, allows, below);
            default: return x.addForAll(19, rights, allows, below);
        }
    }

    private static String text(int kind) {
        return new String[] {"u11", "g7", "o", "a"}[kind];
    }

    private static void add(int kind, String promise) {
        String words = "Adds an entry for " + KINDS[kind] + " behind those that the list of an object has.";
        of(promise, words, () -> {
            PermissionDesk x = chain(12, 8, 20);
            add(x, kind, 1, true, false);
            is("into an empty list", list(x, 19), "19:+" + text(kind) + "=r");
            is("the lists of others stay", list(x, 18) + list(x, 0), "18:0:");
            for (int other = 0; other < 4; other++) {
                add(x, other, 2, true, false);
            }
            add(x, kind, 4, false, true);
            is("behind the others", list(x, 19), "19:+" + text(kind) + "=r;+u11=w;+g7=w;+o=w;+a=w;-"
                    + text(kind) + "=x*");
        });
        of(promise, "true: it allows; false: it refuses", () -> {
            PermissionDesk x = chain(12, 8, 20);
            add(x, kind, 1, true, true);
            add(x, kind, 1, false, true);
            is("true", x.isAllowing(19, 0), true);
            is("false", x.isAllowing(19, 1), false);
        });
        of(promise, "true: it counts below, too", () -> {
            PermissionDesk x = chain(12, 8, 20);
            add(x, kind, 1, false, true);
            add(x, kind, 1, false, false);
            is("true", x.isForBelow(19, 0), true);
            is("false", x.isForBelow(19, 1), false);
        });
        of(promise, "Returns how many entries the list has then.", () -> {
            PermissionDesk x = chain(12, 8, 20);
            x.addForAll(18, 1, true, true);
            for (int entries = 1; entries <= 6; entries++) {
                is("entries", add(x, kind, 1, true, true), entries);
            }
        });
        of(promise, "1 to 15: a set of rights", "kept as it is told", () -> {
            for (int rights = 1; rights < 16; rights++) {
                PermissionDesk x = chain(12, 8, 20);
                is("entries", add(x, kind, rights, true, true), 1);
                is("rights", x.rightsOfEntry(19, 0), rights);
            }
        });
    }

    private static void addRefused(int kind, String promise) {
        of(promise, "if the list has 6 entries", () -> {
            PermissionDesk x = chain(12, 8, 20);
            for (int entry = 0; entry < 5; entry++) {
                x.addForAll(19, 1, true, true);
            }
            is("it has 5", add(x, kind, 1, true, true), 6);
            noState(() -> add(x, kind, 1, true, true));
            noState(() -> add(x, kind, 15, false, false));
            is("entries", x.entriesOf(19), 6);
            x.removeEntry(19, 0);
            is("it has 5 again", add(x, kind, 1, true, true), 6);
            noState(() -> add(x, kind, 1, true, true));
        });
    }

    private static void removeEntry() {
        String words = "Removes an entry; those behind it get numbers that are 1 less.";
        for (int place = 0; place < 6; place++) {
            int entry = place;
            of("Promise 18", words, "entry " + entry + " of 6", () -> {
                PermissionDesk x = sixEntries();
                x.removeEntry(1, entry);
                StringBuilder due = new StringBuilder();
                for (int user = 1; user <= 6; user++) {
                    due.append(user == entry + 1 ? "" : (due.length() > 0 ? ";" : "") + "+u" + user + "=r");
                }
                is("list", list(x, 1), "1:" + due);
            });
        }
        of("Promise 18", words, "the only one", () -> {
            PermissionDesk x = desk(2, 0);
            x.addForAll(0, 1, true, true);
            is("nobody is refused", x.isAllowed(1, 0, 0), true);
            x.removeEntry(0, 0);
            is("list", list(x, 0), "0:");
            is("it counts no more", x.isAllowed(1, 0, 0), false);
            is("by handing down", x.isAllowedByHandingDown(1, 0, 0), false);
        });
        of("Promise 18", "Returns how many entries the list has then.", () -> {
            PermissionDesk x = sixEntries();
            for (int entries = 5; entries >= 0; entries--) {
                is("entries", x.removeEntry(1, entries / 2), entries);
            }
        });
    }

    /** The object 1 has entries for the users 1 to 6. */
    private static PermissionDesk sixEntries() {
        PermissionDesk x = chain(7, 0, 3);
        x.addForAll(0, 2, true, true);
        x.addForAll(2, 2, true, true);
        for (int user = 1; user <= 6; user++) {
            x.addForUser(1, user, 1, true, false);
        }
        return x;
    }

    private static void moveEntry() {
        of("Promise 19", "Moves an entry to another place in its list: it is taken out, and put in again, so that "
                + "its number is this place then; the order of the others stays.", () -> {
            for (int entry = 0; entry < 6; entry++) {
                for (int place = 0; place < 6; place++) {
                    PermissionDesk x = sixEntries();
                    x.moveEntry(1, entry, place);
                    is(entry + " to " + place, list(x, 1), "1:" + moved(entry, place));
                    is("the others' lists", list(x, 0) + list(x, 2), "0:+a=w*2:+a=w*");
                }
            }
        });
        of("Promise 19", "number of an entry of it (as the list is before)", () -> {
            PermissionDesk x = desk(1, 0);
            x.addForAll(0, 1, true, true);
            is("the only place", x.moveEntry(0, 0, 0), 0);
            noIndex(() -> x.moveEntry(0, 0, 1));
            x.addForAll(0, 2, true, true);
            is("the last place", x.moveEntry(0, 0, 1), 0);
            noIndex(() -> x.moveEntry(0, 0, 2));
            noIndex(() -> x.moveEntry(0, 1, 2));
            is("list", list(x, 0), "0:+a=w*;+a=r*");
        });
    }

    /** The entries for the users 1 to 6 after moving one of them. */
    private static String moved(int entry, int place) {
        StringBuilder text = new StringBuilder();
        int next = 1;
        for (int number = 0; number < 6; number++) {
            next += next == entry + 1 ? 1 : 0;
            int user = number == place ? entry + 1 : next;
            next += number == place ? 0 : 1;
            text.append(number == 0 ? "" : ";").append("+u").append(user).append("=r");
        }
        return text.toString();
    }

    private static void moveEntryTells() {
        String words = "Returns how many rights, of all users at all objects together, are allowed then that were "
                + "not, or not any more that were.";
        of("Promise 19", words, "allowed then that were not", () -> {
            PermissionDesk x = chain(4, 0, 3);
            load(x, "0:-a=rw*;+a=rwx*");
            is("two of three users at three objects, as it comes ahead", x.moveEntry(0, 1, 0), 18);
            load(x, "0:-a=rw*;+a=rwx*");
            is("as the refusal goes behind", x.moveEntry(0, 0, 1), 18);
        });
        of("Promise 19", words, "not any more that were", () -> {
            PermissionDesk x = chain(4, 0, 3);
            load(x, "0:+a=rwx*;-a=rw*");
            is("two of three users at three objects, as it goes behind", x.moveEntry(0, 0, 1), 18);
            load(x, "0:+a=rwx*;-a=rw*");
            is("as the refusal comes ahead", x.moveEntry(0, 1, 0), 18);
        });
        of("Promise 19", words, "of those alone for whom it is different", () -> {
            PermissionDesk x = desk(3, 1);
            x.make(0, 1);
            x.make(1, 2);
            load(x, "0:+o=r*;-u1=r*;+a=r*");
            is("the owner 1 loses at 1", x.moveEntry(0, 1, 0), 1);
            is("user 1 gains at all three", x.moveEntry(0, 2, 0), 3);
            is("and loses them again", x.moveEntry(0, 0, 2), 3);
            x.join(2, 0);
            load(x, "0:-a=rw;+g0=rx;+u1=x");
            is("who belongs to the group gains", x.moveEntry(0, 1, 0), 1);
            load(x, "0:-a=rw*;+a=rw*");
            x.setMask(1, 1);
            is("the mask stops one of two at one of three", x.moveEntry(0, 1, 0), 10);
        });
        of("Promise 19", words, "none", () -> {
            PermissionDesk x = chain(4, 0, 3);
            load(x, "0:+a=r*;-a=w*;+u1=x");
            is("to its own place", x.moveEntry(0, 1, 1), 0);
            is("where it does not matter", x.moveEntry(0, 0, 2), 0);
            x.setMask(0, 0);
            x.setMask(1, 0);
            x.setMask(2, 0);
            load(x, "0:+a=rw*;-a=rw*");
            is("where the masks stop it", x.moveEntry(0, 1, 0), 0);
        });
        of("Promise 19", words, "the most", () -> {
            PermissionDesk x = chain(12, 0, 20);
            load(x, "0:-a=rwxm*;+a=rwxm*");
            is("four rights of eleven users at twenty objects", x.moveEntry(0, 0, 1), 880);
        });
    }

    private static void entriesOf() {
        of("Promise 41", "Returns how many entries the list of an object has.", () -> {
            PermissionDesk x = chain(1, 0, 20);
            x.addForAll(18, 1, true, true);
            x.addForAll(18, 1, true, true);
            x.addForAll(19, 1, true, true);
            for (int object = 0; object < 20; object++) {
                is("of " + object, x.entriesOf(object), object == 19 ? 1 : object == 18 ? 2 : 0);
            }
        });
        of("Promise 41", "Returns 0 to 6.", () -> {
            PermissionDesk x = new PermissionDesk();
            is("at first", x.entriesOf(0), 0);
            for (int entries = 1; entries <= 6; entries++) {
                x.addForAll(0, 1, true, true);
                is("entries", x.entriesOf(0), entries);
            }
            noState(() -> x.addForAll(0, 1, true, true));
            is("at most", x.entriesOf(0), 6);
            for (int entries = 5; entries >= 0; entries--) {
                x.removeEntry(0, 0);
                is("entries", x.entriesOf(0), entries);
            }
        });
    }

    /** A list with entries for the highest and lowest user and group, the owner, and all. */
    private static PermissionDesk mixed() {
        PermissionDesk x = chain(12, 8, 20);
        load(x, "18:-a=w;-a=w;-a=w;-a=w;-a=w;-a=w");
        load(x, "19:+u11=r*;-g7=w;+o=rwxm;-a=m*;-u0=rx;+g0=wm*");
        return x;
    }

    private static void isAllowing() {
        of("Promise 42", "Tells whether an entry allows.", () -> {
            PermissionDesk x = desk(2, 0);
            x.addForUser(0, 1, 1, true, false);
            x.addForUser(0, 1, 2, false, false);
            is("it does", x.isAllowing(0, 0) && x.isAllowed(1, 0, 0), true);
            is("it does not", x.isAllowing(0, 1) || x.isAllowed(1, 0, 1), false);
        });
        of("Promise 42", "Returns true if it allows, false if it refuses.", () -> {
            PermissionDesk x = mixed();
            for (int entry = 0; entry < 6; entry++) {
                is("entry " + entry, x.isAllowing(19, entry), "+-+--+".charAt(entry) == '+');
            }
        });
    }

    private static void rightsOfEntry() {
        of("Promise 43", "Returns the rights of an entry.", () -> {
            PermissionDesk x = desk(1, 0);
            for (int rights = 1; rights < 16; rights++) {
                x.addForAll(0, rights, rights % 2 == 0, rights % 3 == 0);
                is("rights", x.rightsOfEntry(0, 0), rights);
                x.removeEntry(0, 0);
            }
        });
        of("Promise 43", "Returns the rights, as a set.", () -> {
            PermissionDesk x = mixed();
            int[] due = {1, 2, 15, 8, 5, 10};
            for (int entry = 0; entry < 6; entry++) {
                is("entry " + entry, x.rightsOfEntry(19, entry), due[entry]);
            }
        });
    }

    private static void userOfEntry() {
        of("Promise 44", "Returns the user for whom an entry is.", () -> {
            PermissionDesk x = desk(12, 0);
            for (int user = 0; user < 12; user++) {
                x.addForUser(0, user, 1, user % 2 == 0, user % 3 == 0);
                is("user", x.userOfEntry(0, 0), user);
                x.removeEntry(0, 0);
            }
        });
        of("Promise 44", "Returns the user; NONE if it is not for one user.", () -> {
            PermissionDesk x = mixed();
            int[] due = {11, NONE, NONE, NONE, 0, NONE};
            for (int entry = 0; entry < 6; entry++) {
                is("entry " + entry, x.userOfEntry(19, entry), due[entry]);
            }
        });
    }

    private static void groupOfEntry() {
        of("Promise 45", "Returns the group for which an entry is.", () -> {
            PermissionDesk x = desk(1, 8);
            for (int group = 0; group < 8; group++) {
                x.addForGroup(0, group, 1, group % 2 == 0, group % 3 == 0);
                is("group", x.groupOfEntry(0, 0), group);
                x.removeEntry(0, 0);
            }
        });
        of("Promise 45", "Returns the group; NONE if it is not for a group.", () -> {
            PermissionDesk x = mixed();
            int[] due = {NONE, 7, NONE, NONE, NONE, 0};
            for (int entry = 0; entry < 6; entry++) {
                is("entry " + entry, x.groupOfEntry(19, entry), due[entry]);
            }
        });
    }

    private static void isForOwner() {
        of("Promise 46", "Tells whether an entry is for the owner.", () -> {
            PermissionDesk x = desk(2, 1);
            x.addForOwner(0, 1, true, false);
            x.addForUser(0, 0, 1, true, false);
            is("it is", x.isForOwner(0, 0), true);
            is("for the user who owns", x.isForOwner(0, 1), false);
        });
        of("Promise 46", "Returns true if it is.", () -> {
            PermissionDesk x = mixed();
            for (int entry = 0; entry < 6; entry++) {
                is("entry " + entry, x.isForOwner(19, entry), entry == 2);
            }
        });
    }

    private static void isForBelow() {
        of("Promise 47", "Tells whether an entry counts below, too.", () -> {
            PermissionDesk x = chain(2, 0, 2);
            x.addForAll(0, 1, true, true);
            x.addForAll(0, 2, true, false);
            is("it does", x.isForBelow(0, 0) && x.isAllowed(1, 1, 0), true);
            is("it does not", x.isForBelow(0, 1) || x.isAllowed(1, 1, 1), false);
        });
        of("Promise 47", "Returns true if it does.", () -> {
            PermissionDesk x = mixed();
            for (int entry = 0; entry < 6; entry++) {
                is("entry " + entry, x.isForBelow(19, entry), "*--*-*".charAt(entry) == '*');
            }
        });
    }
}
