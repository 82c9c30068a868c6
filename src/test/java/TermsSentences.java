import java.lang.reflect.Method;

/** Sentences of "Terms" on users, groups, objects, rights, entries, and what is allowed. */
final class TermsSentences extends Sentences {

    private static final String ORDER = "The entries that count there are, in this order: those of the object's own "
            + "list; then, if the object inherits and has a parent, those of the parent's list that count below, too; "
            + "then, if the parent inherits and has a parent, those of that one's list that count below, too; and so "
            + "on.";
    private static final String DECIDING = "The first one of these that is for the user, and has the right among its "
            + "rights, is the deciding entry.";
    private static final String ALLOWED = "The right is allowed, if the user is the keeper; or if it is the right to "
            + "manage, and the user is the owner of the object; or if there is a deciding entry, it allows, and the "
            + "right is in the mask of the object.";

    private TermsSentences() {
    }

    static void run() {
        calls();
        numbers();
        users();
        groups();
        within();
        objects();
        object();
        objectAtFirst();
        rights();
        entries();
        order();
        orderInheriting();
        deciding();
        allowed();
        refused();
    }

    private static void calls() {
        String words = "An object is used for at most 512 calls after it has been made; what later calls answer is free.";
        of("What it is", words, "the calls up to the 512th hold", () -> {
            PermissionDesk x = new PermissionDesk();
            for (int call = 1; call <= 506; call++) {
                x.ask(0, 0, call % 4);
            }
            is("507th call", x.requests(), 506);
            is("508th call", x.undo(), 4);
            is("509th call", x.requests(), 505);
            is("510th call", x.userOfRequest(7), 0);
            noIndex(() -> x.userOfRequest(8));
            is("512th call", x.refusals(), 0);
        });
        of("What it is", words, "the 512th is a change", () -> {
            PermissionDesk x = chain(12, 8, 20);
            for (int call = 39; call <= 511; call++) {
                x.setMask(19, call % 16);
            }
            is("512th call", x.setMask(19, 0), 511 % 16);
        });
    }

    private static void numbers() {
        of("Terms", "All numbers are whole numbers, but where a double is told.", () -> {
            for (Method method : Face.METHODS) {
                Class<?> type = method.getReturnType();
                boolean isPlain = type == int.class || type == boolean.class;
                is(method.getName(), isPlain, !method.getName().equals("openness"));
            }
        });
        of("Terms", "Sets of rights are told as bits.", () -> {
            PermissionDesk x = desk(2, 0);
            x.addForUser(0, 1, 1 + 4, true, false);
            is("of an entry", x.rightsOfEntry(0, 0), 5);
            is("of a user", x.rightsOf(1, 0), 5);
            x.setMask(0, 4 + 8);
            is("of a mask", x.maskOf(0), 12);
            is("both", x.rightsOf(1, 0), 4);
        });
    }

    private static void users() {
        of("Terms", "There are at most 12 users", () -> {
            PermissionDesk x = new PermissionDesk();
            for (int users = 1; users < 12; users++) {
                is("users", x.users(), users);
                x.addUser();
            }
            is("users", x.users(), 12);
            noState(() -> x.addUser());
            is("the last one has rights", x.share(0, 0, 11, 15), 15);
            noIndex(() -> x.rightsOf(12, 0));
        });
        of("Terms", "numbered from 0 in the order in which they came;", () -> {
            PermissionDesk x = new PermissionDesk();
            for (int user = 1; user < 12; user++) {
                is("number", x.addUser(), user);
            }
        });
        of("Terms", "at first there is the user 0 alone, the keeper.", () -> {
            PermissionDesk x = new PermissionDesk();
            is("users", x.users(), 1);
            is("the keeper", x.rightsOf(0, 0), 15);
            noIndex(() -> x.rightsOf(1, 0));
        });
    }

    private static void groups() {
        of("Terms", "There are at most 8 groups", () -> {
            PermissionDesk x = new PermissionDesk();
            for (int groups = 0; groups < 8; groups++) {
                is("groups", x.groups(), groups);
                x.addGroup();
            }
            is("groups", x.groups(), 8);
            noState(() -> x.addGroup());
            is("the last one has members", x.join(0, 7), 1);
            noIndex(() -> x.join(0, 8));
        });
        of("Terms", "numbered from 0 in the order in which they were made;", () -> {
            PermissionDesk x = new PermissionDesk();
            for (int group = 0; group < 8; group++) {
                is("number", x.addGroup(), group);
            }
        });
        of("Terms", "at first there is none.", () -> {
            PermissionDesk x = new PermissionDesk();
            is("groups", x.groups(), 0);
            noIndex(() -> x.isMember(0, 0));
            noIndex(() -> x.isNested(0, 0));
        });
        of("Terms", "Users can be members of groups.", () -> {
            PermissionDesk x = desk(12, 8);
            for (int group = 0; group < 8; group++) {
                is("one user in all groups", x.join(11, group), 1);
            }
            for (int user = 0; user < 11; user++) {
                is("all users in one group", x.join(user, 7), user + 2);
            }
            for (int group = 0; group < 8; group++) {
                is("in group " + group, x.isMember(11, group), true);
                is("the keeper in group " + group, x.isMember(0, group), group == 7);
            }
        });
        of("Terms", "A group can be nested in another one.", () -> {
            PermissionDesk x = desk(2, 8);
            x.join(1, 0);
            for (int outer = 1; outer < 8; outer++) {
                is("one group in all the others", x.nest(0, outer), 1);
            }
            for (int inner = 1; inner < 7; inner++) {
                is("all the others in one group", x.nest(inner, 7), 1);
            }
        });
    }

    private static void within() {
        String words = "A group is within another one, if it is nested in it, or in one that is within it.";
        of("Terms", words, () -> {
            PermissionDesk x = desk(1, 8);
            for (int inner = 0; inner < 7; inner++) {
                x.nest(inner, inner + 1);
            }
            for (int inner = 0; inner < 8; inner++) {
                for (int outer = inner + 1; outer < 8; outer++) {
                    int from = inner;
                    int to = outer;
                    noState(() -> x.nest(to, from));
                }
            }
            x.unnest(3, 4);
            is("a link is missing", x.nest(4, 3), 0);
            noState(() -> x.nest(3, 4));
            is("nor is any within it any more", x.nest(3, 7), 0);
        });
        of("Terms", "No group comes to be within itself.", () -> {
            PermissionDesk x = desk(1, 8);
            noState(() -> x.nest(0, 0));
            x.nest(5, 2);
            noState(() -> x.nest(2, 5));
            x.nest(2, 6);
            noState(() -> x.nest(6, 5));
            x.nest(6, 0);
            x.nest(0, 7);
            x.nest(7, 1);
            x.nest(1, 4);
            x.nest(4, 3);
            noState(() -> x.nest(3, 5));
            noState(() -> x.nest(3, 0));
            is("the other way round", x.nest(5, 3), 0);
        });
        String belongs = "A user belongs to a group, if the user is a member of it, or of a group that is within it.";
        of("Terms", belongs, () -> {
            PermissionDesk x = desk(4, 8);
            for (int inner = 0; inner < 7; inner++) {
                x.nest(inner, inner + 1);
            }
            x.join(1, 0);
            x.join(2, 3);
            for (int group = 0; group < 8; group++) {
                is("of the innermost one", x.belongs(1, group), true);
                is("of one between", x.belongs(2, group), group >= 3);
                is("of none", x.belongs(3, group), false);
                is("of the innermost one", x.belongsByMembers(1, group), true);
                is("of one between", x.belongsByMembers(2, group), group >= 3);
                is("of none", x.belongsByMembers(3, group), false);
            }
        });
    }

    private static void objects() {
        of("Terms", "There are at most 20 objects at a time, with numbers from 0 to 19.", () -> {
            PermissionDesk x = chain(1, 0, 20);
            noState(() -> x.make(0, 0));
            for (int n = 0; n < 10; n++) {
                x.remove(19);
                is("more than 20 one after the other", x.make(n, 0), 19);
                noState(() -> x.make(0, 0));
            }
            for (int object = 0; object < 20; object++) {
                is("object " + object, x.isThere(object), true);
            }
            is("none with the number 20", x.isThere(20), false);
        });
        of("Terms", "The object 0 is always there, and has no parent.", () -> {
            PermissionDesk x = desk(2, 0);
            is("there", x.isThere(0), true);
            is("parent", x.parentOf(0), NONE);
            noState(() -> x.remove(0));
            x.make(0, 0);
            noState(() -> x.move(0, 1));
            x.giveTo(0, 1);
            x.remove(1);
            noState(() -> x.remove(0));
            x.undo();
            is("there", x.isThere(0), true);
            is("parent", x.parentOf(0), NONE);
        });
        of("Terms", "Each other object has a parent.", () -> {
            PermissionDesk x = desk(1, 0);
            for (int object = 1; object < 20; object++) {
                x.make(object / 3, 0);
                is("of " + object, x.parentOf(object), object / 3);
            }
            x.move(19, 0);
            is("after moving", x.parentOf(19), 0);
            noIndex(() -> x.move(19, NONE));
        });
        of("Terms", "An object is below another one, if that is its parent, or if its parent is below that.", () -> {
            PermissionDesk x = chain(1, 0, 20);
            for (int object = 0; object < 20; object++) {
                is("below " + object, x.below(object), 19 - object);
            }
            noState(() -> x.move(1, 19));
            is("none is below itself", x.below(19), 0);
            x.move(10, 0);
            is("below 1", x.below(1), 8);
            is("below 10", x.below(10), 9);
            is("not below any more", x.move(1, 19), 0);
        });
    }

    private static void object() {
        of("Terms", "An object has an owner, who is a user;", () -> {
            PermissionDesk x = desk(12, 0);
            x.make(0, 11);
            is("owner", x.ownerOf(1), 11);
            noIndex(() -> x.make(0, 12));
            noIndex(() -> x.giveTo(1, 12));
            noIndex(() -> x.giveTo(1, NONE));
        });
        of("Terms", "a mask, which is a set of rights, all four at first;", () -> {
            PermissionDesk x = desk(1, 0);
            is("of the object 0", x.maskOf(0), 15);
            x.make(0, 0);
            is("of another one", x.maskOf(1), 15);
            x.setMask(1, 0);
            is("none of them", x.maskOf(1), 0);
            noArgument(() -> x.setMask(1, 16));
            noArgument(() -> x.setMask(1, -1));
        });
        of("Terms", "it inherits or does not, as at first it does", () -> {
            PermissionDesk x = chain(2, 0, 2);
            is("at first", x.isInheriting(1), true);
            x.addForAll(0, 1, true, true);
            is("it does", x.isAllowed(1, 1, 0), true);
            x.setInheriting(1, false);
            is("it does not", x.isAllowed(1, 1, 0), false);
        });
        of("Terms", "(for the object 0 this does not matter);", () -> {
            PermissionDesk x = chain(2, 0, 3);
            x.addForAll(0, 1, true, true);
            x.addForAll(0, 2, true, false);
            is("at first", x.setInheriting(0, false), true);
            is("told as it was set", x.isInheriting(0), false);
            is("at the object 0", x.rightsOf(1, 0), 3);
            is("below it", x.rightsOf(1, 1), 1);
            is("below that", x.rightsOf(1, 2), 1);
            is("by handing down", x.isAllowedByHandingDown(1, 2, 0), true);
        });
    }

    private static void objectAtFirst() {
        String words = "and it has a list of at most 6 entries, numbered from 0 in their order, none at first.";
        of("Terms", words, () -> {
            PermissionDesk x = desk(7, 0);
            x.make(0, 0);
            is("none at first", x.entriesOf(1), 0);
            noIndex(() -> x.userOfEntry(1, 0));
            for (int entry = 0; entry < 6; entry++) {
                x.addForUser(1, entry, 1, true, true);
            }
            for (int entry = 0; entry < 6; entry++) {
                is("in their order", x.userOfEntry(1, entry), entry);
            }
            noState(() -> x.addForUser(1, 6, 1, true, true));
            noIndex(() -> x.userOfEntry(1, 6));
        });
        of("Terms", "The object 0 has the keeper as its owner at first.", () -> {
            PermissionDesk x = desk(2, 0);
            is("owner", x.ownerOf(0), 0);
            x.giveTo(0, 1);
            is("at first alone", x.ownerOf(0), 1);
        });
    }

    private static void rights() {
        of("Terms", "The rights are: 0 to read, 1 to write, 2 to run, and 3 to manage;", () -> {
            PermissionDesk x = desk(2, 0);
            for (int right = 0; right < 4; right++) {
                load(x, "0:+u1=" + "rwxm".charAt(right));
                for (int asked = 0; asked < 4; asked++) {
                    is("right " + asked, x.isAllowed(1, 0, asked), asked == right);
                }
            }
            noArgument(() -> x.isAllowed(1, 0, 4));
            noArgument(() -> x.isAllowed(1, 0, -1));
        });
        of("Terms", "in sets they are the bits 1, 2, 4 and 8.", () -> {
            PermissionDesk x = desk(2, 0);
            int[] bits = {1, 2, 4, 8};
            for (int right = 0; right < 4; right++) {
                x.addForUser(0, 1, bits[right], true, false);
                is("allowed", x.isAllowed(1, 0, right), true);
                is("of the user", x.rightsOf(1, 0), bits[right]);
                x.setMask(0, 15 - bits[right]);
                is("not in the mask", x.isAllowed(1, 0, right), false);
                x.setMask(0, 15);
                x.removeEntry(0, 0);
            }
        });
    }

    private static void entries() {
        of("Terms", "An entry allows or refuses some rights, one at least;", () -> {
            PermissionDesk x = desk(2, 0);
            noArgument(() -> x.addForAll(0, 0, true, true));
            x.addForAll(0, 4, false, false);
            x.addForAll(0, 15, true, false);
            is("all but what is refused", x.rightsOf(1, 0), 11);
        });
        of("Terms", "it is for one user, for a group (for all who belong to it),", () -> {
            PermissionDesk x = desk(4, 3);
            x.addForUser(0, 3, 1, true, false);
            x.addForGroup(0, 2, 2, true, false);
            x.join(1, 2);
            x.join(2, 0);
            x.nest(0, 1);
            x.nest(1, 2);
            is("a member", x.rightsOf(1, 0), 2);
            is("a member of one within it", x.rightsOf(2, 0), 2);
            is("the one user", x.rightsOf(3, 0), 1);
            x.unnest(1, 2);
            is("who belongs no more", x.rightsOf(2, 0), 0);
        });
        of("Terms", "for the owner (of the object at which a right is asked for, whoever that is then),", () -> {
            PermissionDesk x = desk(4, 0);
            x.giveTo(0, 3);
            x.make(0, 1);
            x.make(1, 2);
            x.addForOwner(0, 1, true, true);
            for (int user = 1; user < 4; user++) {
                for (int object = 0; object < 3; object++) {
                    boolean due = x.ownerOf(object) == user;
                    is(user + " at " + object, x.isAllowed(user, object, 0), due);
                    is(user + " at " + object, x.isAllowedByHandingDown(user, object, 0), due);
                }
            }
            x.giveTo(2, 3);
            is("the owner then", x.isAllowed(3, 2, 0), true);
            is("the owner before", x.isAllowed(2, 2, 0), false);
        });
        of("Terms", "or for all users;", () -> {
            PermissionDesk x = desk(12, 0);
            x.addForAll(0, 1, true, false);
            is("users", x.usersWith(0, 0), 12);
        });
        of("Terms", "and it counts at its object alone, or below, too.", () -> {
            PermissionDesk x = chain(2, 0, 4);
            x.addForAll(1, 1, true, false);
            x.addForAll(1, 2, true, true);
            is("above it", x.rightsOf(1, 0), 0);
            is("at its object", x.rightsOf(1, 1), 3);
            is("below", x.rightsOf(1, 2), 2);
            is("below that", x.rightsOf(1, 3), 2);
        });
    }

    private static void order() {
        of("Terms", "A user asks for a right at an object.", () -> {
            PermissionDesk x = desk(3, 0);
            x.make(0, 0);
            x.addForUser(1, 2, 4, true, false);
            is("this one", x.ask(2, 1, 2), true);
            is("another user", x.ask(1, 1, 2), false);
            is("another object", x.ask(2, 0, 2), false);
            is("another right", x.ask(2, 1, 1), false);
        });
        of("Terms", ORDER, "the object's own list, from its first entry", () -> {
            PermissionDesk x = chain(2, 0, 2);
            load(x, "1:-a=r;+a=rw;-a=wx;+a=x");
            is("rights", x.rightsOf(1, 1), 2);
            is("the first", x.decidingEntry(1, 1, 0), 0);
            is("the second", x.decidingEntry(1, 1, 1), 1);
            is("the third", x.decidingEntry(1, 1, 2), 2);
        });
        of("Terms", ORDER, "ahead of the parent's list", () -> {
            PermissionDesk x = chain(2, 0, 3);
            load(x, "0:-a=rwx*;+a=m*");
            load(x, "1:+a=rw*;-a=m*");
            load(x, "2:-a=w");
            is("at 0", x.rightsOf(1, 0), 8);
            is("at 1", x.rightsOf(1, 1), 3);
            is("at 2", x.rightsOf(1, 2), 1);
            is("own list", x.decidingObject(1, 2, 1), 2);
            is("the parent's", x.decidingObject(1, 2, 0), 1);
            is("the one of that one's parent", x.decidingObject(1, 2, 2), 0);
        });
        of("Terms", ORDER, "those of the parent that count below alone", () -> {
            PermissionDesk x = chain(2, 0, 3);
            load(x, "0:-a=r;+a=r*;+a=w;-a=w*;+a=x");
            is("at 0", x.rightsOf(1, 0), 6);
            is("at 1", x.rightsOf(1, 1), 1);
            is("at 2", x.rightsOf(1, 2), 1);
            load(x, "1:-a=r;+a=w");
            is("own ones, though they don't count below", x.rightsOf(1, 1), 2);
            is("those of the parent don't", x.rightsOf(1, 2), 1);
        });
    }

    private static void orderInheriting() {
        of("Terms", ORDER, "if the object inherits", () -> {
            PermissionDesk x = chain(2, 0, 3);
            x.addForAll(0, 1, true, true);
            x.addForAll(1, 2, true, true);
            x.setInheriting(2, false);
            is("neither the parent's nor others'", x.rightsOf(1, 2), 0);
            is("the parent does", x.rightsOf(1, 1), 3);
            x.addForAll(2, 4, true, false);
            is("own ones", x.rightsOf(1, 2), 4);
        });
        of("Terms", ORDER, "if the parent inherits", () -> {
            PermissionDesk x = chain(2, 0, 4);
            x.addForAll(0, 1, true, true);
            x.addForAll(1, 2, true, true);
            x.addForAll(2, 4, true, true);
            x.setInheriting(1, false);
            is("up to the one that does not", x.rightsOf(1, 3), 6);
            x.setInheriting(2, false);
            is("up to a nearer one", x.rightsOf(1, 3), 4);
            x.setInheriting(1, true);
            is("whatever those above do", x.rightsOf(1, 3), 4);
            x.setInheriting(2, true);
            is("all", x.rightsOf(1, 3), 7);
        });
        of("Terms", ORDER, "and so on, up to the object 0", () -> {
            PermissionDesk x = chain(2, 0, 20);
            x.addForUser(0, 1, 1, true, true);
            is("nineteen levels", x.isAllowed(1, 19, 0), true);
            is("by handing down", x.isAllowedByHandingDown(1, 19, 0), true);
            is("deciding object", x.decidingObject(1, 19, 0), 0);
            for (int object = 1; object < 20; object++) {
                x.setInheriting(object, false);
                is("without " + object, x.isAllowed(1, 19, 0), false);
                x.setInheriting(object, true);
            }
        });
    }

    private static void deciding() {
        of("Terms", DECIDING, "that is for the user", () -> {
            PermissionDesk x = desk(5, 2);
            x.make(0, 4);
            x.join(1, 0);
            load(x, "1:-u3=r;-g1=r;+g0=r;-o=r;-u2=r;+a=r");
            int[] due = {5, 2, 4, 0, 3};
            for (int user = 0; user < 5; user++) {
                is("of user " + user, x.decidingEntry(user, 1, 0), due[user]);
            }
        });
        of("Terms", DECIDING, "and has the right among its rights", () -> {
            PermissionDesk x = desk(2, 0);
            load(x, "0:-a=w;+a=rx;-a=rwx;+a=rwxm");
            int[] due = {1, 0, 1, 3};
            for (int right = 0; right < 4; right++) {
                is("of right " + right, x.decidingEntry(1, 0, right), due[right]);
            }
        });
        of("Terms", DECIDING, "the first one of several", () -> {
            PermissionDesk x = desk(2, 0);
            load(x, "0:+u1=r;-u1=r;+u1=r;-a=r;+a=r;-u1=r");
            for (int entry = 0; entry < 6; entry++) {
                is("the first one", x.decidingEntry(1, 0, 0), 0);
                is("it decides", x.isAllowed(1, 0, 0), x.isAllowing(0, 0));
                x.removeEntry(0, 0);
            }
            is("none", x.decidingEntry(1, 0, 0), NONE);
        });
    }

    private static void allowed() {
        of("Terms", ALLOWED, "if the user is the keeper", () -> {
            PermissionDesk x = desk(2, 0);
            x.make(0, 1);
            load(x, "1:-a=rwxm");
            x.setMask(1, 0);
            is("refused by an entry, and not in the mask", x.rightsOf(0, 1), 15);
            x.giveTo(0, 1);
            is("where another one owns", x.rightsOf(0, 0), 15);
        });
        of("Terms", ALLOWED, "the right to manage of the owner", () -> {
            PermissionDesk x = desk(3, 0);
            x.make(0, 1);
            x.make(1, 2);
            load(x, "1:-a=rwxm*");
            x.setMask(1, 0);
            is("refused by an entry, and not in the mask", x.rightsOf(1, 1), 8);
            is("not at an object below", x.rightsOf(1, 2), 0);
            is("not at its parent", x.rightsOf(2, 1), 0);
            x.giveTo(1, 2);
            is("no more the owner", x.rightsOf(1, 1), 0);
        });
        of("Terms", ALLOWED, "a deciding entry that allows", () -> {
            PermissionDesk x = desk(2, 0);
            x.addForUser(0, 1, 6, true, false);
            is("those of the entry", x.rightsOf(1, 0), 6);
        });
        of("Terms", ALLOWED, "in the mask of the object", () -> {
            PermissionDesk x = chain(2, 0, 2);
            x.addForAll(0, 15, true, true);
            for (int mask = 0; mask < 16; mask++) {
                x.setMask(1, mask);
                is("mask " + mask, x.rightsOf(1, 1), mask);
                is("not the mask of one below", x.rightsOf(1, 0), 15);
            }
            x.setMask(1, 15);
            x.setMask(0, 0);
            is("not the mask of the parent", x.rightsOf(1, 1), 15);
        });
    }

    private static void refused() {
        of("Terms", "Otherwise it is refused.", "no deciding entry", () -> {
            PermissionDesk x = desk(2, 0);
            is("no entries", x.rightsOf(1, 0), 0);
            x.addForUser(0, 0, 15, true, true);
            is("for another one", x.rightsOf(1, 0), 0);
        });
        of("Terms", "Otherwise it is refused.", "a deciding entry that refuses", () -> {
            PermissionDesk x = desk(2, 0);
            x.addForAll(0, 15, false, true);
            x.addForAll(0, 15, true, true);
            is("whatever comes behind it", x.rightsOf(1, 0), 0);
        });
        of("Terms", "Otherwise it is refused.", "not in the mask", () -> {
            PermissionDesk x = desk(2, 0);
            x.addForAll(0, 15, true, true);
            x.setMask(0, 0);
            is("none is", x.rightsOf(1, 0), 0);
        });
        of("Terms", "Otherwise it is refused.", "the owner's other rights", () -> {
            PermissionDesk x = desk(2, 0);
            x.make(0, 1);
            is("to manage alone", x.rightsOf(1, 1), 8);
        });
    }
}
