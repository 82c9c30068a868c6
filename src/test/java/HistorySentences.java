/** Sentences of the promises 64 to 66: undo, and slots. */
final class HistorySentences extends Sentences {

    private HistorySentences() {
    }

    static void run() {
        undo();
        undoTells();
        save();
        saveTells();
        restore();
        restoreTells();
        restoreRefused();
    }

    private static void undo() {
        of("Promise 64", "Undoes the latest change: the state is as it was before it.", () -> {
            PermissionDesk x = Stage.SOME.desk();
            String before = seen(x);
            x.make(1, 2);
            x.undo();
            is("what is seen", seen(x), before);
        });
        of("Promise 64", "Undoes the latest change: the state is as it was before it.", "five in turn", () -> {
            PermissionDesk x = desk(3, 1);
            String[] before = new String[5];
            before[0] = seen(x);
            x.make(0, 1);
            before[1] = seen(x);
            x.join(2, 0);
            before[2] = seen(x);
            x.addForGroup(1, 0, 3, true, true);
            before[3] = seen(x);
            x.ask(2, 1, 0);
            before[4] = seen(x);
            x.setMask(1, 1);
            for (int left = 4; left >= 0; left--) {
                x.undo();
                is("with " + left + " left", seen(x), before[left]);
            }
        });
        of("Promise 64", "Undoes the latest change: the state is as it was before it.", "and others after it", () -> {
            PermissionDesk x = new PermissionDesk();
            x.addUser();
            x.addGroup();
            x.undo();
            x.undo();
            x.addGroup();
            x.addGroup();
            x.addUser();
            is("two undone, three made", x.undo(), 2);
            is("groups", x.groups(), 2);
            is("users", x.users(), 1);
            for (int n = 0; n < 5; n++) {
                x.addUser();
            }
            is("a full history", x.undo(), 4);
            is("users", x.users(), 5);
            x.addGroup();
            is("in place of the one undone", x.undo(), 4);
            is("groups", x.groups(), 2);
        });
    }

    private static void undoTells() {
        of("Promise 64", "Returns how many states the history has then.", () -> {
            for (int changes = 1; changes <= 12; changes++) {
                PermissionDesk x = new PermissionDesk();
                for (int n = 0; n < changes; n++) {
                    x.setMask(0, n);
                }
                for (int left = Math.min(changes, 5) - 1; left >= 0; left--) {
                    is("of " + changes + " changes", x.undo(), left);
                }
            }
        });
        of("Promise 64", "if it has none", "at first", () -> {
            PermissionDesk x = new PermissionDesk();
            noState(() -> x.undo());
            x.addUser();
            is("one", x.undo(), 0);
            noState(() -> x.undo());
            noState(() -> x.undo());
        });
        of("Promise 64", "if it has none", "any more", () -> {
            for (int changes = 5; changes <= 12; changes++) {
                PermissionDesk x = new PermissionDesk();
                for (int n = 0; n < changes; n++) {
                    x.ask(0, 0, 0);
                }
                for (int n = 0; n < 5; n++) {
                    x.undo();
                }
                noState(() -> x.undo());
                is("what can't be undone stays", x.requests(), changes - 5);
            }
        });
    }

    private static void save() {
        String words = "Takes a snapshot of the state into a slot, in place of the one that was.";
        for (int number = 0; number < 2; number++) {
            int slot = number;
            of("Promise 65", words, "of all the state, slot " + slot, () -> {
                PermissionDesk x = Stage.SOME.desk();
                String before = seen(x);
                x.save(slot);
                x.leave(1, 0);
                x.unnest(0, 1);
                x.remove(3);
                x.giveTo(1, 0);
                x.setMask(1, 0);
                x.setInheriting(1, false);
                x.removeEntry(1, 0);
                x.addUser();
                x.addGroup();
                x.ask(0, 0, 0);
                x.restore(slot);
                is("what is seen", seen(x), before);
            });
            of("Promise 65", words, "in place of the one that was, slot " + slot, () -> {
                PermissionDesk x = desk(3, 0);
                x.save(slot);
                x.addUser();
                x.save(1 - slot);
                x.addUser();
                x.save(slot);
                x.addUser();
                x.restore(slot);
                is("the latest one", x.users(), 5);
                x.restore(1 - slot);
                is("the other slot's", x.users(), 4);
            });
        }
    }

    private static void saveTells() {
        of("Promise 65", "Returns how many objects there are.", () -> {
            PermissionDesk x = new PermissionDesk();
            for (int objects = 1; objects <= 20; objects++) {
                is("objects", x.save(objects % 2), objects);
                if (objects < 20) {
                    x.make(0, 0);
                }
            }
            x.remove(5);
            is("after removing", x.save(0), 19);
        });
        of("Promise 65", "Takes a snapshot of the state into a slot", "this is no change", () -> {
            PermissionDesk x = new PermissionDesk();
            x.save(0);
            x.save(1);
            noState(() -> x.undo());
        });
    }

    private static void restore() {
        of("Promise 66", "Restores the snapshot of a slot, which stays.", () -> {
            PermissionDesk x = Stage.SOME.desk();
            x.save(1);
            String before = seen(x);
            for (int n = 0; n < 3; n++) {
                x.make(1, 2);
                x.addForAll(1, 1, true, true);
                x.setMask(0, n);
                x.ask(1, 1, 1);
                x.restore(1);
                is("what is seen", seen(x), before);
            }
        });
        of("Promise 66", "Restores the snapshot of a slot, which stays.", "whatever is undone then", () -> {
            PermissionDesk x = desk(2, 0);
            x.save(0);
            x.addUser();
            x.restore(0);
            x.undo();
            is("before restoring", x.users(), 3);
            x.undo();
            x.undo();
            is("before saving", x.users(), 1);
            x.restore(0);
            is("the snapshot is there still", x.users(), 2);
        });
        of("Promise 66", "Restores the snapshot of a slot, which stays.", "each slot its own", () -> {
            PermissionDesk x = new PermissionDesk();
            x.save(0);
            x.addGroup();
            x.save(1);
            x.addGroup();
            x.restore(0);
            is("slot 0", x.groups(), 0);
            x.restore(1);
            is("slot 1", x.groups(), 1);
            x.restore(0);
            is("slot 0", x.groups(), 0);
        });
    }

    private static void restoreTells() {
        of("Promise 66", "Returns how many objects there are then.", () -> {
            PermissionDesk x = new PermissionDesk();
            x.save(0);
            for (int object = 1; object < 20; object++) {
                x.make(0, 0);
            }
            x.save(1);
            is("one", x.restore(0), 1);
            is("twenty", x.restore(1), 20);
            is("twenty again", x.restore(1), 20);
            x.remove(7);
            is("after removing", x.restore(1), 20);
        });
    }

    private static void restoreRefused() {
        of("Promise 66", "if there is no snapshot in it", () -> {
            PermissionDesk x = new PermissionDesk();
            noState(() -> x.restore(0));
            noState(() -> x.restore(1));
            x.save(1);
            noState(() -> x.restore(0));
            is("in the other one", x.restore(1), 1);
            x.save(0);
            is("then in both", x.restore(0), 1);
            PermissionDesk y = new PermissionDesk();
            noState(() -> y.restore(0));
            noState(() -> y.restore(1));
        });
    }
}
