/** Sentences of the promises 21 and 48 to 58: sharing, and what is allowed. */
final class RightSentences extends Sentences {

    private RightSentences() {
    }

    static void run() {
        share();
        shareRefused();
        isAllowed("Promise 48", false);
        isAllowed("Promise 49", true);
        climbing();
        handingDown();
        bothWays();
        rightsOf();
        decidingObject();
        decidingEntry();
        isStoppedByMask();
        usersWith();
        rightsThrough();
        isNeedless();
        isNeedlessElsewhere();
        allRights();
        openness();
    }

    private static void share() {
        String words = "A user shares rights at an object with another one, or with the same one: an entry for that "
                + "one that allows them, and counts at this object alone, comes ahead of all others in its list.";
        of("Promise 21", words, "with another one", () -> {
            PermissionDesk x = chain(3, 0, 3);
            load(x, "1:-a=rw;-u2=w*");
            x.share(0, 1, 2, 3);
            is("ahead of all others", list(x, 1), "1:+u2=rw;-a=rw;-u2=w*");
            is("the other lists", list(x, 0) + list(x, 2), "0:2:");
            is("at this object alone", x.rightsOf(2, 2), 0);
            x.share(0, 1, 1, 15);
            is("ahead of the one shared before", list(x, 1), "1:+u1=rwxm;+u2=rw;-a=rw;-u2=w*");
        });
        of("Promise 21", words, "with the same one", () -> {
            PermissionDesk x = desk(2, 0);
            x.make(0, 1);
            is("the owner", x.share(1, 1, 1, 8), 8);
            is("list", list(x, 1), "1:+u1=m");
            is("the keeper", x.share(0, 0, 0, 15), 15);
            is("list", list(x, 0), "0:+u0=rwxm");
        });
        of("Promise 21", "This is not logged.", () -> {
            PermissionDesk x = desk(2, 0);
            x.ask(1, 0, 2);
            x.share(0, 0, 1, 1);
            noState(() -> x.share(1, 0, 1, 1));
            x.share(0, 0, 0, 15);
            is("the log", log(x), " 1 1 1 0false");
        });
        of("Promise 21", "Returns the rights that are allowed to the user at the object then, as a set.", () -> {
            PermissionDesk x = desk(3, 0);
            x.make(0, 1);
            is("what is shared", x.share(0, 1, 2, 2), 2);
            is("with what the user has", x.share(0, 1, 2, 4), 6);
            is("with what the owner has", x.share(0, 1, 1, 1), 9);
            is("all of the keeper", x.share(0, 1, 0, 1), 15);
            x.setMask(1, 5);
            is("what the mask leaves", x.share(0, 1, 2, 3), 5);
            x.setMask(1, 0);
            is("nothing", x.share(0, 1, 2, 15), 0);
        });
    }

    private static void shareRefused() {
        String giver = "number of a user, to whom the right to manage the object has to be allowed, and each of the "
                + "rights";
        of("Promise 21", giver, () -> {
            PermissionDesk x = desk(12, 0);
            x.make(0, 11);
            x.addForUser(1, 11, 3, true, false);
            is("all that are needed", x.share(11, 1, 10, 11), 11);
            is("who may manage, by an entry", x.share(10, 1, 9, 8), 8);
            is("each of the rights, by an entry", x.share(10, 1, 9, 3), 11);
        });
        of("Promise 21", "if one of these rights is not allowed to the giver there", "the right to manage", () -> {
            PermissionDesk x = desk(3, 0);
            x.make(0, 1);
            x.addForUser(1, 2, 7, true, false);
            noState(() -> x.share(2, 1, 1, 7));
            noState(() -> x.share(2, 1, 2, 1));
            noState(() -> x.share(2, 1, 1, 8));
            x.giveTo(1, 2);
            is("as owner", x.share(2, 1, 1, 7), 7);
            is("the former owner's list", x.entriesOf(1), 2);
            noState(() -> x.share(1, 1, 1, 7));
        });
        of("Promise 21", "if one of these rights is not allowed to the giver there", "one that is shared", () -> {
            for (int lacked = 0; lacked < 3; lacked++) {
                PermissionDesk x = desk(3, 0);
                x.make(0, 1);
                int right = 1 << lacked;
                x.addForUser(1, 1, 15 & ~right, true, false);
                noState(() -> x.share(1, 1, 2, right));
                noState(() -> x.share(1, 1, 2, 15));
                noState(() -> x.share(1, 1, 2, right | 8));
                is("the others", x.share(1, 1, 2, 15 & ~right), 15 & ~right);
            }
        });
        of("Promise 21", "if one of these rights is not allowed to the giver there", "stopped by the mask", () -> {
            PermissionDesk x = desk(3, 0);
            x.addForUser(0, 1, 15, true, true);
            x.make(0, 2);
            is("allowed", x.share(1, 1, 2, 15), 15);
            x.setMask(1, 8);
            noState(() -> x.share(1, 1, 2, 1));
            is("the right to manage", x.share(1, 1, 2, 8), 8);
            x.setMask(1, 7);
            noState(() -> x.share(1, 1, 2, 1));
            is("the owner may manage", x.share(2, 1, 1, 8), 7);
        });
        of("Promise 21", "or the list has 6 entries", () -> {
            PermissionDesk x = desk(2, 0);
            for (int entry = 0; entry < 5; entry++) {
                x.addForAll(0, 1, false, false);
            }
            is("it has 5", x.share(0, 0, 1, 1), 1);
            is("entries", x.entriesOf(0), 6);
            noState(() -> x.share(0, 0, 1, 1));
            is("list", list(x, 0), "0:+u1=r;-a=r;-a=r;-a=r;-a=r;-a=r");
        });
    }

    private static boolean asked(PermissionDesk x, boolean isByHanding, int user, int object, int right) {
        return isByHanding ? x.isAllowedByHandingDown(user, object, right) : x.isAllowed(user, object, right);
    }

    private static void isAllowed(String promise, boolean byHanding) {
        String words = byHanding ? "Returns true if it is (the same as by isAllowed())." : "Returns true if it is.";
        of(promise, words, "each right by itself", () -> {
            PermissionDesk x = chain(12, 0, 20);
            for (int right = 0; right < 4; right++) {
                is("nothing allows it", asked(x, byHanding, 11, 19, right), false);
                x.addForUser(19, 11, 1 << right, true, false);
                is("an entry allows it", asked(x, byHanding, 11, 19, right), true);
                is("not to another one", asked(x, byHanding, 10, 19, right), false);
                is("not at another one", asked(x, byHanding, 11, 18, right), false);
                x.setMask(19, 15 & ~(1 << right));
                is("the mask stops it", asked(x, byHanding, 11, 19, right), false);
                x.setMask(19, 1 << right);
                is("the mask leaves it", asked(x, byHanding, 11, 19, right), true);
                is("the keeper", asked(x, byHanding, 0, 19, 3 - right), true);
                x.setMask(19, 15);
            }
        });
        of(promise, words, "each set of rights", () -> {
            for (int rights = 1; rights < 16; rights++) {
                PermissionDesk x = desk(2, 0);
                x.addForUser(0, 1, rights, true, false);
                for (int right = 0; right < 4; right++) {
                    is(rights + " allowed, " + right, asked(x, byHanding, 1, 0, right), (rights >> right & 1) == 1);
                }
                x.share(0, 0, 1, 15);
                x.removeEntry(0, 1);
                x.addForUser(0, 1, rights, false, false);
                x.moveEntry(0, 1, 0);
                for (int right = 0; right < 4; right++) {
                    is(rights + " refused, " + right, asked(x, byHanding, 1, 0, right), (rights >> right & 1) == 0);
                }
            }
        });
        of(promise, words, "nothing is changed", () -> {
            PermissionDesk x = Stage.SOME.desk();
            String before = seen(x);
            asked(x, byHanding, 2, 3, 0);
            asked(x, byHanding, 0, 1, 3);
            is("what is seen", seen(x), before);
        });
    }

    private static void climbing() {
        of("Promise 48", "Tells whether a right is allowed, told by climbing from the object to its parents.", () -> {
            PermissionDesk x = chain(2, 0, 20);
            x.addForUser(0, 1, 1, true, true);
            for (int object = 0; object < 20; object++) {
                is("by the object 0, at " + object, x.isAllowed(1, object, 0), true);
            }
            x.addForUser(10, 1, 1, false, true);
            for (int object = 0; object < 20; object++) {
                is("by the nearest, at " + object, x.isAllowed(1, object, 0), object < 10);
            }
            x.setInheriting(15, false);
            x.addForUser(5, 1, 2, true, true);
            for (int object = 0; object < 20; object++) {
                is("up to who does not inherit, at " + object, x.isAllowed(1, object, 1), object >= 5 && object < 15);
            }
        });
    }

    private static void handingDown() {
        String words = "Tells whether a right is allowed, told by handing lists down: the object 0 hands those of its "
                + "entries that count below down to the objects whose parent it is; each of them that inherits puts "
                + "them behind its own ones, and hands down in turn.";
        of("Promise 49", words, "in a chain", () -> {
            PermissionDesk x = chain(2, 0, 20);
            x.addForUser(0, 1, 1, true, true);
            for (int object = 0; object < 20; object++) {
                is("by the object 0, at " + object, x.isAllowedByHandingDown(1, object, 0), true);
            }
            x.addForUser(10, 1, 1, false, true);
            x.setInheriting(15, false);
            x.addForUser(5, 1, 2, true, true);
            for (int object = 0; object < 20; object++) {
                is("by the nearest, at " + object, x.isAllowedByHandingDown(1, object, 0), object < 10);
                is("down to who does not inherit, at " + object, x.isAllowedByHandingDown(1, object, 1),
                        object >= 5 && object < 15);
            }
        });
        of("Promise 49", words, "to parents with higher numbers", () -> {
            PermissionDesk x = desk(2, 0);
            for (int object = 1; object < 20; object++) {
                x.make(0, 0);
            }
            for (int object = 1; object < 19; object++) {
                x.move(object, object + 1);
            }
            x.addForAll(0, 1, true, true);
            x.addForAll(0, 2, true, false);
            x.addForAll(10, 4, true, true);
            x.addForAll(10, 8, true, false);
            for (int object = 1; object < 20; object++) {
                is("to read, at " + object, x.isAllowedByHandingDown(1, object, 0), true);
                is("to write, at " + object, x.isAllowedByHandingDown(1, object, 1), false);
                is("to run, at " + object, x.isAllowedByHandingDown(1, object, 2), object <= 10);
                is("to manage, at " + object, x.isAllowedByHandingDown(1, object, 3), object == 10);
            }
        });
        of("Promise 49", words, "the longest list, of 120 entries", () -> {
            PermissionDesk x = chain(3, 0, 20);
            for (int object = 19; object >= 0; object--) {
                for (int entry = object == 0 ? 1 : 0; entry < 6; entry++) {
                    x.addForUser(object, 1, 2, false, true);
                }
            }
            x.addForUser(0, 2, 1, true, true);
            is("the last one", x.isAllowedByHandingDown(2, 19, 0), true);
            is("again", x.isAllowedByHandingDown(2, 19, 0), true);
            is("by climbing", x.isAllowed(2, 19, 0), true);
            is("at the object 0", x.isAllowedByHandingDown(2, 0, 0), true);
        });
    }

    private static void bothWays() {
        of("Promise 49", "Returns true if it is (the same as by isAllowed()).", "at all objects, to all users", () -> {
            PermissionDesk x = desk(4, 2);
            x.make(0, 1);
            x.make(1, 2);
            x.make(1, 3);
            x.make(3, 0);
            x.make(0, 2);
            x.move(1, 5);
            x.join(2, 0);
            x.join(3, 1);
            x.nest(0, 1);
            load(x, "0:+g1=r*;-u3=w*;+o=x*;+a=m");
            load(x, "1:-g0=r*;+a=w*;-a=r");
            load(x, "3:+u2=r;-o=x*;+g1=m*");
            load(x, "5:-u1=m*;+u1=rx*");
            x.setInheriting(2, false);
            x.setMask(4, 6);
            for (int user = 0; user < 4; user++) {
                for (int object = 0; object < 6; object++) {
                    for (int right = 0; right < 4; right++) {
                        is("user " + user + " at " + object + ", right " + right,
                                x.isAllowedByHandingDown(user, object, right), x.isAllowed(user, object, right));
                    }
                }
            }
        });
    }

    private static void rightsOf() {
        of("Promise 50", "Returns the rights that are allowed to a user at an object.", () -> {
            PermissionDesk x = desk(3, 0);
            x.make(0, 1);
            x.addForAll(0, 5, true, true);
            x.addForUser(1, 2, 1, false, true);
            is("the keeper", x.rightsOf(0, 1), 15);
            is("the owner", x.rightsOf(1, 1), 13);
            is("another one", x.rightsOf(2, 1), 4);
            is("at the parent", x.rightsOf(2, 0), 5);
            x.setMask(1, 1);
            is("behind a mask", x.rightsOf(1, 1), 9);
            is("nothing", x.rightsOf(2, 1), 0);
        });
        of("Promise 50", "Returns the rights, as a set.", () -> {
            PermissionDesk x = desk(2, 0);
            is("none", x.rightsOf(1, 0), 0);
            for (int rights = 1; rights < 16; rights++) {
                x.addForUser(0, 1, rights, true, false);
                is("rights", x.rightsOf(1, 0), rights);
                for (int right = 0; right < 4; right++) {
                    is("right " + right, x.isAllowed(1, 0, right), (rights >> right & 1) == 1);
                }
                x.removeEntry(0, 0);
            }
        });
    }

    private static PermissionDesk deciders() {
        PermissionDesk x = desk(12, 1);
        x.make(0, 1);
        x.make(1, 2);
        for (int object = 3; object < 20; object++) {
            x.make(0, 0);
        }
        x.move(2, 19);
        load(x, "0:+u11=r;-a=rwx*;+a=r*");
        load(x, "19:-a=x;-a=x;-a=x;-a=x;-a=x;+u11=w*");
        load(x, "2:-u1=m;+u2=m;-u0=m");
        return x;
    }

    private static void decidingObject() {
        String words = "Returns the object in whose list the deciding entry is, whether the user is the keeper, or the "
                + "owner, or not.";
        of("Promise 51", words, () -> {
            PermissionDesk x = deciders();
            is("the object itself", x.decidingObject(1, 2, 3), 2);
            is("its parent", x.decidingObject(11, 2, 1), 19);
            is("the parent of that", x.decidingObject(11, 2, 0), 0);
            is("the owner", x.decidingObject(2, 2, 3), 2);
            is("the keeper", x.decidingObject(0, 2, 3), 2);
            is("the keeper, who owns", x.decidingObject(0, 19, 2), 19);
            is("the keeper, higher up", x.decidingObject(0, 19, 0), 0);
        });
        of("Promise 51", "Returns the object; NONE if there is no deciding entry.", () -> {
            PermissionDesk x = deciders();
            is("for no such right", x.decidingObject(1, 1, 3), NONE);
            is("of the keeper", x.decidingObject(0, 1, 3), NONE);
            is("for another user", x.decidingObject(3, 2, 3), NONE);
            x.setInheriting(19, false);
            is("not inherited", x.decidingObject(11, 2, 0), NONE);
            is("inherited", x.decidingObject(11, 2, 1), 19);
            PermissionDesk y = desk(2, 0);
            is("no entries at all", y.decidingObject(1, 0, 0), NONE);
            is("no entries, to the keeper", y.decidingObject(0, 0, 3), NONE);
        });
    }

    private static void decidingEntry() {
        String words = "Returns the number of the deciding entry in its list, whether the user is the keeper, or the "
                + "owner, or not.";
        of("Promise 52", words, () -> {
            PermissionDesk x = deciders();
            is("the first one", x.decidingEntry(11, 0, 0), 0);
            is("which counts there alone", x.decidingEntry(11, 1, 0), 1);
            is("the last one of six", x.decidingEntry(11, 2, 1), 5);
            is("the first of several", x.decidingEntry(1, 19, 2), 0);
            is("the owner", x.decidingEntry(2, 2, 3), 1);
            is("the keeper", x.decidingEntry(0, 2, 3), 2);
            x.setMask(0, 0);
            is("behind a mask", x.decidingEntry(11, 0, 0), 0);
        });
        of("Promise 52", "Returns the number; NONE if there is no deciding entry.", () -> {
            PermissionDesk x = deciders();
            is("for no such right", x.decidingEntry(1, 1, 3), NONE);
            is("of the keeper", x.decidingEntry(0, 1, 3), NONE);
            is("for another user", x.decidingEntry(3, 2, 3), NONE);
            x.setInheriting(19, false);
            is("not inherited", x.decidingEntry(11, 2, 0), NONE);
            is("inherited", x.decidingEntry(11, 2, 1), 5);
            PermissionDesk y = desk(2, 0);
            is("no entries at all", y.decidingEntry(1, 0, 0), NONE);
            is("no entries, to the keeper", y.decidingEntry(0, 0, 3), NONE);
        });
    }

    private static void isStoppedByMask() {
        String words = "Tells whether a right is refused by the mask alone: it is refused, but would be allowed, if it "
                + "was in the mask of the object.";
        of("Promise 53", words, () -> {
            PermissionDesk x = desk(4, 0);
            x.make(0, 1);
            load(x, "0:+a=rm*;-a=w*");
            x.setMask(1, 0);
            is("it would be allowed", x.isStoppedByMask(2, 1, 0), true);
            is("it would be refused by an entry", x.isStoppedByMask(2, 1, 1), false);
            is("it would be refused as no entry is for it", x.isStoppedByMask(2, 1, 2), false);
            is("allowed to the keeper", x.isStoppedByMask(0, 1, 0), false);
            is("allowed to the owner", x.isStoppedByMask(1, 1, 3), false);
            is("the owner's other rights", x.isStoppedByMask(1, 1, 0), true);
            is("the right to manage of who does not own", x.isStoppedByMask(2, 1, 3), true);
            is("the mask of the parent has it", x.isStoppedByMask(2, 0, 0), false);
            x.setMask(0, 0);
            x.setMask(1, 15);
            is("the mask of the parent does not matter", x.isStoppedByMask(2, 1, 0), false);
        });
        of("Promise 53", "Returns true if it is.", () -> {
            PermissionDesk x = desk(2, 0);
            x.addForAll(0, 15, true, false);
            for (int mask = 0; mask < 16; mask++) {
                x.setMask(0, mask);
                for (int right = 0; right < 4; right++) {
                    is("mask " + mask + ", right " + right, x.isStoppedByMask(1, 0, right), (mask >> right & 1) == 0);
                }
            }
        });
    }

    private static void usersWith() {
        of("Promise 54", "Returns to how many users a right is allowed at an object.", () -> {
            PermissionDesk x = desk(6, 1);
            x.make(0, 5);
            x.join(2, 0);
            x.join(3, 0);
            load(x, "0:+g0=rw*;+o=x*;-a=r*");
            is("the group, and the keeper", x.usersWith(1, 0), 3);
            is("the group, and the keeper", x.usersWith(1, 1), 3);
            is("the owner, and the keeper", x.usersWith(1, 2), 2);
            is("the owner, and the keeper", x.usersWith(1, 3), 2);
            x.setMask(1, 1);
            is("the keeper alone", x.usersWith(1, 1), 1);
            is("at the parent", x.usersWith(0, 1), 3);
        });
        of("Promise 54", "Returns how many.", () -> {
            PermissionDesk x = new PermissionDesk();
            for (int users = 1; users <= 12; users++) {
                is("the keeper alone", x.usersWith(0, 0), 1);
                x.addForAll(0, 1, true, false);
                is("all", x.usersWith(0, 0), users);
                x.removeEntry(0, 0);
                is("users", x.users(), users);
                if (users < 12) {
                    x.addUser();
                }
            }
        });
    }

    private static void rightsThrough() {
        String words = "Returns how many rights a user has at all objects through a group: those that are allowed, and "
                + "whose deciding entry allows, and is for this group.";
        of("Promise 55", words, () -> {
            PermissionDesk x = chain(3, 3, 2);
            x.join(1, 0);
            x.nest(0, 1);
            load(x, "0:+u1=x*;+g0=rx*;+g1=w*;-g0=m*");
            is("of the group itself, to read", x.rightsThrough(1, 0), 2);
            is("of one in which it is nested, to write", x.rightsThrough(1, 1), 2);
            is("of a group to which no entry is", x.rightsThrough(1, 2), 0);
            is("of another user", x.rightsThrough(2, 0), 0);
            x.setMask(1, 2);
            is("not allowed at 1", x.rightsThrough(1, 0), 1);
            is("still allowed", x.rightsThrough(1, 1), 2);
        });
        of("Promise 55", words, "rights that are allowed, but not by that entry", () -> {
            PermissionDesk x = desk(2, 1);
            x.join(0, 0);
            x.join(1, 0);
            x.make(0, 1);
            load(x, "1:-g0=rm");
            is("the keeper has them, as the keeper", x.rightsThrough(0, 0), 0);
            is("the owner has one, as the owner", x.rightsThrough(1, 0), 0);
            load(x, "1:+g0=rm");
            is("the keeper", x.rightsThrough(0, 0), 2);
            is("the owner", x.rightsThrough(1, 0), 2);
            x.setMask(1, 0);
            is("allowed to the keeper, whatever the mask", x.rightsThrough(0, 0), 2);
            is("one is allowed to the owner, whatever the mask", x.rightsThrough(1, 0), 1);
        });
        of("Promise 55", "Returns how many, of all objects together.", () -> {
            PermissionDesk x = chain(12, 8, 20);
            x.join(11, 7);
            is("none", x.rightsThrough(11, 7), 0);
            x.addForGroup(19, 7, 1, true, true);
            is("one", x.rightsThrough(11, 7), 1);
            x.addForGroup(0, 7, 15, true, true);
            is("all", x.rightsThrough(11, 7), 80);
            x.setInheriting(10, false);
            is("half of them, and one", x.rightsThrough(11, 7), 41);
        });
    }

    private static void isNeedless() {
        String words = "Tells whether an entry is needless: without it the same rights would be allowed to all users at "
                + "all objects.";
        of("Promise 56", words, "another one does the same", () -> {
            PermissionDesk x = desk(3, 0);
            load(x, "0:+u1=r;+a=r;-a=rw;+u2=w");
            is("all may", x.isNeedless(0, 0), true);
            is("user 2 may by it alone", x.isNeedless(0, 1), false);
            is("user 2 may not write by it", x.isNeedless(0, 2), false);
            is("behind a refusal", x.isNeedless(0, 3), true);
        });
        of("Promise 56", words, "who may anyhow, or may not anyhow", () -> {
            PermissionDesk x = desk(2, 1);
            x.make(0, 1);
            load(x, "1:+o=m;+u0=rwxm;-u1=m;-u0=r;-a=w;+g0=x");
            for (int entry = 0; entry < 6; entry++) {
                is("entry " + entry, x.isNeedless(1, entry), true);
            }
            x.giveTo(1, 0);
            is("the keeper owns", x.isNeedless(1, 0), true);
            x.join(1, 0);
            is("the group has a member", x.isNeedless(1, 5), false);
            x.setMask(1, 11);
            is("the mask stops it", x.isNeedless(1, 5), true);
        });
        of("Promise 56", words, "what it changes is left as it was", () -> {
            PermissionDesk x = Stage.SOME.desk();
            String before = seen(x);
            for (int entry = 0; entry < 3; entry++) {
                x.isNeedless(1, entry);
            }
            is("what is seen", seen(x), before);
            is("states", x.undo(), 4);
        });
    }

    private static void isNeedlessElsewhere() {
        of("Promise 56", "Returns true if it is.", "at objects below", () -> {
            PermissionDesk x = chain(2, 0, 20);
            x.addForUser(0, 1, 1, true, true);
            for (int object = 0; object < 19; object++) {
                x.setMask(object, 0);
            }
            is("it matters at the lowest one alone", x.isNeedless(0, 0), false);
            x.setMask(19, 2);
            is("it matters nowhere", x.isNeedless(0, 0), true);
            x.setMask(19, 1);
            x.setInheriting(7, false);
            is("it is not inherited", x.isNeedless(0, 0), true);
            x.setInheriting(7, true);
            x.addForAll(19, 1, true, false);
            is("another one allows it there", x.isNeedless(0, 0), true);
            is("and that one is needless, too", x.isNeedless(19, 0), true);
            x.removeEntry(0, 0);
            is("till the first one goes", x.isNeedless(19, 0), false);
        });
        of("Promise 56", "Returns true if it is.", "one user would gain, another one lose", () -> {
            PermissionDesk x = desk(3, 0);
            load(x, "0:+u1=r;-u2=r;+u2=r;-u1=r");
            is("user 1 would lose", x.isNeedless(0, 0), false);
            is("user 2 would gain", x.isNeedless(0, 1), false);
            is("user 2 has nothing of it", x.isNeedless(0, 2), true);
            is("user 1 may anyhow", x.isNeedless(0, 3), true);
        });
        of("Promise 56", "Returns true if it is.", "all six, of the lowest object", () -> {
            PermissionDesk x = chain(12, 8, 20);
            load(x, "19:+u11=r;+u11=r;+u10=r;-u10=r;-g7=w;+u9=rwxm*");
            boolean[] due = {true, true, false, true, true, false};
            for (int entry = 0; entry < 6; entry++) {
                is("entry " + entry, x.isNeedless(19, entry), due[entry]);
            }
        });
    }

    private static void allRights() {
        of("Promise 57", "Returns how many rights are allowed to all users at all objects.", () -> {
            PermissionDesk x = desk(3, 0);
            is("the keeper's", x.allRights(), 4);
            x.make(0, 1);
            is("the keeper's two times, and the owner's", x.allRights(), 9);
            x.addForUser(0, 2, 3, true, true);
            is("two more at two objects", x.allRights(), 13);
            x.setMask(1, 1);
            is("one is stopped", x.allRights(), 12);
            x.addForOwner(1, 9, true, false);
            is("one more of the owner", x.allRights(), 13);
            x.remove(1);
            is("at the object 0 alone", x.allRights(), 6);
        });
        of("Promise 57", "Returns how many, together.", () -> {
            PermissionDesk x = new PermissionDesk();
            is("the least", x.allRights(), 4);
            PermissionDesk y = chain(12, 0, 20);
            is("the keeper's at all objects", y.allRights(), 80);
            y.addForAll(0, 15, true, true);
            is("the most", y.allRights(), 960);
        });
    }

    private static void openness() {
        of("Promise 58", "Returns how open the objects are.", () -> {
            PermissionDesk x = new PermissionDesk();
            is("all is open to the keeper", x.openness(), 1.0);
            x.addUser();
            is("half of it", x.openness(), 0.5);
            x.addForAll(0, 1, true, true);
            is("a quarter of a half more", x.openness(), 0.625);
            x.addForAll(0, 15, true, true);
            is("all", x.openness(), 1.0);
        });
        String words = "Returns allRights(), as a double, divided by 4 times the users times the objects.";
        of("Promise 58", words, () -> {
            for (int users = 1; users <= 12; users++) {
                for (int objects = 1; objects <= 20; objects++) {
                    PermissionDesk x = chain(users, 0, objects);
                    x.addForUser(0, users - 1, 5, true, false);
                    double due = (double) x.allRights() / (4 * users * objects);
                    is(users + " users, " + objects + " objects", x.openness(), due);
                }
            }
        });
        of("Promise 58", words, "what can't be told by a float", () -> {
            PermissionDesk x = desk(3, 0);
            is("a third", x.openness(), 4.0 / 12.0);
        });
    }
}
