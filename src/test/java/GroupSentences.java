/** Sentences of the promises 1 to 7 and 28 to 33: users and groups. */
final class GroupSentences extends Sentences {

    private static final String NOW_BELONG = "Returns how many users belong to the group then.";

    private GroupSentences() {
    }

    static void run() {
        newObject();
        addUser();
        addGroup();
        join();
        leave();
        nest();
        nestRefused();
        unnest();
        counts();
        isMember();
        isNested();
        belongs();
        belongsByMembers();
    }

    private static void newObject() {
        of("Promise 1", "Creates a desk with the keeper and the object 0.", () -> {
            PermissionDesk x = new PermissionDesk();
            is("what is seen", seen(x), "1 0 4  0: -1 0 15true 0 0");
            is("the pad", typed(x), "");
            noState(() -> x.undo());
            noState(() -> x.restore(0));
            noState(() -> x.restore(1));
        });
        of("Promise 1", "Creates a desk with the keeper and the object 0.", "whatever others went through", () -> {
            PermissionDesk other = Stage.FULL.desk();
            PermissionDesk x = new PermissionDesk();
            is("what is seen", seen(x), "1 0 4  0: -1 0 15true 0 0");
            is("the pad", typed(x), "");
            noState(() -> x.undo());
            noState(() -> x.restore(0));
            noState(() -> x.restore(1));
            x.addUser();
            is("users of the other one", other.users(), 12);
            is("pad of the other one", typed(other), "19:+a=rr");
        });
    }

    private static void addUser() {
        of("Promise 2", "A user comes.", () -> {
            PermissionDesk x = desk(1, 8);
            x.addForAll(0, 0b0010, true, true);
            x.addUser();
            is("users", x.users(), 2);
            for (int group = 0; group < 8; group++) {
                is("member of " + group, x.isMember(1, group), false);
            }
            is("only what all may", x.rightsOf(1, 0), 2);
        });
        of("Promise 2", "A user comes.", "nothing is left of one who was taken back", () -> {
            PermissionDesk x = desk(1, 1);
            x.addUser();
            x.join(1, 0);
            x.undo();
            x.undo();
            x.addUser();
            is("member", x.isMember(1, 0), false);
            is("belongs", x.belongsByMembers(1, 0), false);
        });
        of("Promise 2", "Returns the number of the user.", () -> {
            PermissionDesk x = new PermissionDesk();
            for (int user = 1; user < 12; user++) {
                is("number", x.addUser(), user);
            }
        });
        of("Promise 2", "if there are 12", () -> {
            PermissionDesk x = desk(11, 0);
            is("there are 11", x.addUser(), 11);
            noState(() -> x.addUser());
            noState(() -> x.addUser());
            is("users", x.users(), 12);
            x.undo();
            is("there are 11 again", x.addUser(), 11);
            noState(() -> x.addUser());
        });
    }

    private static void addGroup() {
        of("Promise 3", "Makes a group, without members.", () -> {
            PermissionDesk x = desk(12, 0);
            x.addGroup();
            is("groups", x.groups(), 1);
            for (int user = 0; user < 12; user++) {
                is("member " + user, x.isMember(user, 0), false);
                is("belongs " + user, x.belongs(user, 0), false);
                is("belongs by members " + user, x.belongsByMembers(user, 0), false);
            }
        });
        of("Promise 3", "Makes a group, without members.", "also where one with members was taken back", () -> {
            PermissionDesk x = desk(2, 1);
            x.join(1, 0);
            x.addGroup();
            x.join(1, 1);
            x.nest(0, 1);
            x.undo();
            x.undo();
            x.undo();
            x.addGroup();
            is("member", x.isMember(1, 1), false);
            is("nested", x.isNested(0, 1), false);
            is("belongs", x.belongs(1, 1), false);
        });
        of("Promise 3", "Returns the number of the group.", () -> {
            PermissionDesk x = new PermissionDesk();
            for (int group = 0; group < 8; group++) {
                is("number", x.addGroup(), group);
            }
        });
        of("Promise 3", "if there are 8", () -> {
            PermissionDesk x = desk(1, 7);
            is("there are 7", x.addGroup(), 7);
            noState(() -> x.addGroup());
            noState(() -> x.addGroup());
            is("groups", x.groups(), 8);
            x.undo();
            is("there are 7 again", x.addGroup(), 7);
            noState(() -> x.addGroup());
        });
    }

    private static void join() {
        of("Promise 4", "A user becomes a member of a group.", () -> {
            PermissionDesk x = desk(12, 8);
            x.join(11, 7);
            for (int user = 0; user < 12; user++) {
                for (int group = 0; group < 8; group++) {
                    is(user + " member of " + group, x.isMember(user, group), user == 11 && group == 7);
                }
            }
            x.join(0, 0);
            is("the keeper, too", x.isMember(0, 0), true);
            is("the first one stays", x.isMember(11, 7), true);
        });
        of("Promise 4", NOW_BELONG, "from 1 to 12", () -> {
            PermissionDesk x = desk(12, 8);
            for (int user = 0; user < 12; user++) {
                is("belong", x.join(11 - user, 3), user + 1);
            }
        });
        of("Promise 4", NOW_BELONG, "those of the groups within it, too, once each", () -> {
            PermissionDesk x = desk(4, 3);
            x.nest(0, 1);
            x.nest(1, 2);
            is("the inner group", x.join(1, 0), 1);
            is("two are within", x.join(2, 2), 2);
            is("who belongs already", x.join(1, 2), 2);
            is("the inner one is not told of them", x.join(3, 0), 2);
            is("the one between", x.join(2, 1), 3);
        });
        of("Promise 4", "if the user is a member of it already", () -> {
            PermissionDesk x = desk(12, 8);
            x.join(11, 7);
            noState(() -> x.join(11, 7));
            is("belongs, but is no member", x.nest(7, 6), 1);
            is("and so may join", x.join(11, 6), 1);
            noState(() -> x.join(11, 6));
            x.leave(11, 7);
            is("after leaving", x.join(11, 7), 1);
            x.undo();
            is("after undo", x.join(11, 7), 1);
            noState(() -> x.join(11, 7));
        });
    }

    private static void leave() {
        of("Promise 5", "A user is no member of a group any more.", () -> {
            PermissionDesk x = desk(3, 2);
            x.join(1, 0);
            x.join(2, 0);
            x.join(1, 1);
            x.leave(1, 0);
            is("member", x.isMember(1, 0), false);
            is("belongs", x.belongs(1, 0), false);
            is("the other user stays", x.isMember(2, 0), true);
            is("the other group stays", x.isMember(1, 1), true);
        });
        of("Promise 5", NOW_BELONG, "from 11 to 0", () -> {
            PermissionDesk x = desk(12, 1);
            for (int user = 0; user < 12; user++) {
                x.join(user, 0);
            }
            for (int user = 0; user < 12; user++) {
                is("belong", x.leave(user, 0), 11 - user);
            }
        });
        of("Promise 5", NOW_BELONG, "who is left in a group within it counts still", () -> {
            PermissionDesk x = desk(2, 2);
            x.join(1, 0);
            x.join(1, 1);
            x.nest(0, 1);
            is("by the inner group", x.leave(1, 1), 1);
            is("none", x.leave(1, 0), 0);
        });
        of("Promise 5", "if the user is no member of it", () -> {
            PermissionDesk x = desk(12, 8);
            noState(() -> x.leave(11, 7));
            x.join(11, 7);
            noState(() -> x.leave(11, 6));
            noState(() -> x.leave(10, 7));
            x.nest(7, 6);
            noState(() -> x.leave(11, 6));
            is("a member", x.leave(11, 7), 0);
            noState(() -> x.leave(11, 7));
        });
    }

    private static void nest() {
        of("Promise 6", "Nests a group in another one.", () -> {
            PermissionDesk x = desk(1, 8);
            x.nest(7, 0);
            for (int inner = 0; inner < 8; inner++) {
                for (int outer = 0; outer < 8; outer++) {
                    is(inner + " in " + outer, x.isNested(inner, outer), inner == 7 && outer == 0);
                }
            }
        });
        of("Promise 6", "number of a group, which is nested", () -> {
            PermissionDesk x = desk(2, 2);
            x.join(1, 0);
            x.nest(0, 1);
            is("the member of the inner one belongs to the outer one", x.belongs(1, 1), true);
        });
        of("Promise 6", "number of a group, in which it is nested", () -> {
            PermissionDesk x = desk(2, 2);
            x.join(1, 1);
            x.nest(0, 1);
            is("the member of the outer one does not belong to the inner one", x.belongs(1, 0), false);
        });
        of("Promise 6", "Returns how many users belong to the outer group then.", () -> {
            PermissionDesk x = desk(12, 4);
            is("none", x.nest(0, 1), 0);
            for (int user = 0; user < 12; user++) {
                x.join(user, user < 5 ? 0 : 2);
            }
            x.join(0, 2);
            is("those of the inner one", x.nest(0, 3), 5);
            is("those of both, once each", x.nest(2, 1), 12);
        });
        of("Promise 6", "Returns how many users belong to the outer group then.",
                "those of the groups within the inner one, too", () -> {
            PermissionDesk x = desk(4, 3);
            x.join(1, 0);
            x.join(2, 1);
            x.join(3, 2);
            x.nest(0, 1);
            is("all three", x.nest(1, 2), 3);
        });
    }

    private static void nestRefused() {
        of("Promise 6", "if both are the same", () -> {
            PermissionDesk x = desk(1, 8);
            noState(() -> x.nest(0, 0));
            noState(() -> x.nest(7, 7));
        });
        of("Promise 6", "inner is nested in outer already", () -> {
            PermissionDesk x = desk(1, 8);
            x.nest(6, 7);
            noState(() -> x.nest(6, 7));
            is("within, but not nested", x.nest(5, 6) + x.nest(5, 7), 0);
            noState(() -> x.nest(5, 7));
            x.unnest(6, 7);
            is("after unnesting", x.nest(6, 7), 0);
        });
        of("Promise 6", "or outer is within inner", "nested in it", () -> {
            PermissionDesk x = desk(1, 8);
            x.nest(6, 7);
            noState(() -> x.nest(7, 6));
        });
        of("Promise 6", "or outer is within inner", "through others, seven at most", () -> {
            PermissionDesk x = desk(1, 8);
            for (int inner = 0; inner < 7; inner++) {
                x.nest(inner, inner + 1);
                int outer = inner + 1;
                for (int low = 0; low <= inner; low++) {
                    int within = low;
                    noState(() -> x.nest(outer, within));
                }
            }
            x.unnest(3, 4);
            is("within no more", x.nest(7, 0), 0);
            noState(() -> x.nest(3, 4));
        });
        of("Promise 6", "or outer is within inner", "with falling numbers", () -> {
            PermissionDesk x = desk(1, 8);
            for (int inner = 7; inner > 0; inner--) {
                x.nest(inner, inner - 1);
            }
            noState(() -> x.nest(0, 7));
            noState(() -> x.nest(0, 1));
            noState(() -> x.nest(3, 7));
        });
    }

    private static void unnest() {
        of("Promise 7", "A group is not nested in another one any more.", () -> {
            PermissionDesk x = desk(2, 8);
            x.join(1, 6);
            x.nest(6, 7);
            x.nest(6, 5);
            x.nest(0, 7);
            x.unnest(6, 7);
            is("nested", x.isNested(6, 7), false);
            is("belongs", x.belongs(1, 7), false);
            is("in the other one still", x.isNested(6, 5), true);
            is("the other one still", x.isNested(0, 7), true);
        });
        of("Promise 7", "Returns how many users belong to the outer group then.", () -> {
            PermissionDesk x = desk(5, 4);
            x.join(1, 0);
            x.join(2, 1);
            x.join(3, 1);
            x.join(4, 2);
            x.nest(0, 1);
            x.nest(1, 2);
            x.nest(0, 2);
            is("still by another way", x.unnest(1, 2), 2);
            is("the members alone", x.unnest(0, 2), 1);
            is("the members of another one", x.unnest(0, 1), 2);
            x.nest(0, 3);
            is("none", x.unnest(0, 3), 0);
        });
        of("Promise 7", "if inner is not nested in outer", () -> {
            PermissionDesk x = desk(1, 8);
            noState(() -> x.unnest(6, 7));
            x.nest(5, 6);
            x.nest(6, 7);
            noState(() -> x.unnest(7, 6));
            noState(() -> x.unnest(5, 7));
            noState(() -> x.unnest(6, 6));
            is("nested", x.unnest(6, 7), 0);
            noState(() -> x.unnest(6, 7));
        });
    }

    private static void counts() {
        of("Promise 28", "Returns how many users there are.", () -> {
            PermissionDesk x = desk(4, 0);
            is("users", x.users(), 4);
            x.undo();
            is("after undo", x.users(), 3);
        });
        of("Promise 28", "Returns 1 to 12.", () -> {
            PermissionDesk x = new PermissionDesk();
            is("at first", x.users(), 1);
            for (int users = 2; users <= 12; users++) {
                x.addUser();
                is("users", x.users(), users);
            }
            noState(() -> x.addUser());
            is("at most", x.users(), 12);
        });
        of("Promise 29", "Returns how many groups there are.", () -> {
            PermissionDesk x = desk(1, 3);
            is("groups", x.groups(), 3);
            x.undo();
            is("after undo", x.groups(), 2);
        });
        of("Promise 29", "Returns 0 to 8.", () -> {
            PermissionDesk x = new PermissionDesk();
            is("at first", x.groups(), 0);
            for (int groups = 1; groups <= 8; groups++) {
                x.addGroup();
                is("groups", x.groups(), groups);
            }
            noState(() -> x.addGroup());
            is("at most", x.groups(), 8);
        });
    }

    private static void isMember() {
        of("Promise 30", "Tells whether a user is a member of a group.", () -> {
            PermissionDesk x = desk(3, 2);
            x.join(1, 0);
            x.join(2, 1);
            x.nest(0, 1);
            is("a member", x.isMember(1, 0), true);
            is("who belongs, but is no member", x.isMember(1, 1), false);
            is("of the outer one alone", x.isMember(2, 0), false);
            x.leave(1, 0);
            is("who left", x.isMember(1, 0), false);
        });
        of("Promise 30", "Returns true if the user is.", () -> {
            PermissionDesk x = desk(12, 8);
            for (int user = 0; user < 12; user++) {
                x.join(user, user % 8);
                x.join(user, (user + 3) % 8);
            }
            for (int user = 0; user < 12; user++) {
                for (int group = 0; group < 8; group++) {
                    boolean due = group == user % 8 || group == (user + 3) % 8;
                    is(user + " of " + group, x.isMember(user, group), due);
                }
            }
        });
    }

    private static void isNested() {
        of("Promise 31", "Tells whether a group is nested in another one.", () -> {
            PermissionDesk x = desk(1, 3);
            x.nest(0, 1);
            x.nest(1, 2);
            is("nested", x.isNested(0, 1), true);
            is("within, but not nested", x.isNested(0, 2), false);
            is("the other way round", x.isNested(1, 0), false);
            is("in itself", x.isNested(1, 1), false);
            x.unnest(0, 1);
            is("no more", x.isNested(0, 1), false);
        });
        of("Promise 31", "Returns true if it is.", () -> {
            PermissionDesk x = desk(1, 8);
            for (int inner = 0; inner < 8; inner++) {
                for (int outer = inner + 1; outer < 8; outer += 2) {
                    x.nest(inner, outer);
                }
            }
            for (int inner = 0; inner < 8; inner++) {
                for (int outer = 0; outer < 8; outer++) {
                    boolean due = outer > inner && (outer - inner) % 2 == 1;
                    is(inner + " in " + outer, x.isNested(inner, outer), due);
                }
            }
        });
    }

    private static void belongs() {
        String words = "Tells whether a user belongs to a group, told by climbing: from the groups of which "
                + "the user is a member to those in which they are nested, and so on.";
        of("Promise 32", words, () -> {
            PermissionDesk x = desk(2, 8);
            x.join(1, 3);
            is("a member", x.belongs(1, 3), true);
            int inner = 3;
            for (int outer : new int[] {6, 1, 7, 0, 2, 5, 4}) {
                is("not yet", x.belongs(1, outer), false);
                x.nest(inner, outer);
                is("by climbing", x.belongs(1, outer), true);
                is("the keeper does not", x.belongs(0, outer), false);
                inner = outer;
            }
            x.leave(1, 3);
            is("no more", x.belongs(1, 4), false);
        });
        of("Promise 32", "Returns true if the user does.", () -> {
            PermissionDesk x = desk(3, 3);
            x.join(1, 1);
            x.nest(0, 1);
            x.nest(1, 2);
            is("of which one is a member", x.belongs(1, 1), true);
            is("in which that is nested", x.belongs(1, 2), true);
            is("which is nested in that", x.belongs(1, 0), false);
            is("another user", x.belongs(2, 1), false);
        });
    }

    private static void belongsByMembers() {
        String words = "Tells whether a user belongs to a group, told by members: those of the group, of the "
                + "groups that are nested in it, and so on.";
        of("Promise 33", words, () -> {
            PermissionDesk x = desk(2, 8);
            x.join(1, 3);
            is("a member", x.belongsByMembers(1, 3), true);
            int inner = 3;
            for (int outer : new int[] {6, 1, 7, 0, 2, 5, 4}) {
                is("not yet", x.belongsByMembers(1, outer), false);
                x.nest(inner, outer);
                is("by members", x.belongsByMembers(1, outer), true);
                is("the keeper does not", x.belongsByMembers(0, outer), false);
                inner = outer;
            }
            x.leave(1, 3);
            is("no more", x.belongsByMembers(1, 4), false);
        });
        of("Promise 33", "Returns true if the user does (the same as by belongs()).", () -> {
            PermissionDesk x = desk(12, 8);
            int[][] pairs = {{0, 3}, {3, 1}, {1, 7}, {2, 1}, {5, 2}, {5, 4}, {4, 7}, {6, 0}};
            for (int[] pair : pairs) {
                x.nest(pair[0], pair[1]);
            }
            for (int user = 0; user < 11; user++) {
                x.join(user, user % 8);
                x.join(user, (user * 3 + 1) % 8);
            }
            for (int user = 0; user < 12; user++) {
                for (int group = 0; group < 8; group++) {
                    is(user + " to " + group, x.belongsByMembers(user, group), x.belongs(user, group));
                }
            }
            is("by five groups", x.belongsByMembers(6, 7), true);
            is("in no group", x.belongsByMembers(11, 7), false);
        });
    }
}
