/** Sentences of the promises 8 to 13 and 34 to 40: objects. */
final class ObjectSentences extends Sentences {

    private ObjectSentences() {
    }

    static void run() {
        make();
        remove();
        removeRefused();
        move();
        moveRefused();
        giveTo();
        setMask();
        setInheriting();
        objects();
        isThere();
        parentOf();
        ownerOf();
        maskOf();
        isInheriting();
        below();
    }

    private static void make() {
        of("Promise 8", "Makes an object, with the lowest number that none has.", () -> {
            PermissionDesk x = chain(2, 0, 4);
            is("behind the last one", x.make(0, 1), 4);
            x.remove(4);
            x.remove(3);
            is("in a gap", x.make(0, 1), 3);
            is("behind it again", x.make(0, 1), 4);
            x.move(3, 0);
            x.remove(2);
            x.remove(1);
            is("the lowest of two", x.make(0, 1), 1);
            is("the other one", x.make(0, 1), 2);
            is("none between", x.make(0, 1), 5);
        });
        of("Promise 8", "Makes an object, with the lowest number that none has.", "as objects are at first", () -> {
            PermissionDesk x = desk(12, 1);
            x.make(0, 11);
            x.setMask(1, 0);
            x.setInheriting(1, false);
            x.addForAll(1, 15, true, true);
            x.addForGroup(1, 0, 1, false, true);
            x.remove(1);
            x.make(0, 10);
            is("list", list(x, 1), "1:");
            is("mask", x.maskOf(1), 15);
            is("inherits", x.isInheriting(1), true);
            is("owner", x.ownerOf(1), 10);
            is("parent", x.parentOf(1), 0);
            is("below", x.below(1), 0);
        });
        of("Promise 8", "Returns the number of the new object.", () -> {
            PermissionDesk x = desk(12, 0);
            for (int object = 1; object < 20; object++) {
                is("number", x.make(object - 1, object % 12), object);
                is("parent", x.parentOf(object), object - 1);
                is("owner", x.ownerOf(object), object % 12);
            }
        });
        of("Promise 8", "if there are 20 objects", () -> {
            PermissionDesk x = chain(1, 0, 19);
            is("there are 19", x.make(0, 0), 19);
            noState(() -> x.make(0, 0));
            noState(() -> x.make(19, 0));
            x.remove(18);
            is("there are 19 again", x.make(19, 0), 18);
            noState(() -> x.make(0, 0));
            is("objects", x.objects(), 20);
        });
    }

    private static void remove() {
        of("Promise 9", "Removes an object, and its entries.", () -> {
            PermissionDesk x = chain(1, 0, 20);
            x.addForAll(19, 1, true, false);
            x.addForAll(18, 2, true, false);
            x.remove(19);
            is("there", x.isThere(19), false);
            noIndex(() -> x.entriesOf(19));
            is("the other one", x.isThere(18), true);
            is("its list", list(x, 18), "18:+a=w");
            x.make(0, 0);
            is("list of the next one", x.entriesOf(19), 0);
        });
        of("Promise 9", "Removes an object, and its entries.", "they count no more", () -> {
            PermissionDesk x = desk(2, 0);
            x.make(0, 0);
            x.addForAll(1, 15, true, true);
            x.remove(1);
            x.make(0, 0);
            is("at the next one", x.rightsOf(1, 1), 0);
            is("by handing down", x.isAllowedByHandingDown(1, 1, 0), false);
            is("deciding entry", x.decidingEntry(1, 1, 0), NONE);
            x.addForUser(1, 0, 2, true, true);
            is("behind what is added then", x.isAllowedByHandingDown(1, 1, 0), false);
        });
        of("Promise 9", "Returns how many objects there are then.", () -> {
            PermissionDesk x = chain(1, 0, 20);
            for (int object = 19; object > 0; object--) {
                is("objects", x.remove(object), object);
            }
        });
    }

    private static void removeRefused() {
        of("Promise 9", "if it is the object 0", () -> {
            PermissionDesk x = new PermissionDesk();
            noState(() -> x.remove(0));
            x.make(0, 0);
            x.remove(1);
            noState(() -> x.remove(0));
            is("objects", x.objects(), 1);
        });
        of("Promise 9", "or some object is below it", () -> {
            PermissionDesk x = chain(1, 0, 4);
            noState(() -> x.remove(0));
            noState(() -> x.remove(1));
            noState(() -> x.remove(2));
            x.remove(3);
            is("none is below it any more", x.remove(2), 2);
            x.make(1, 0);
            noState(() -> x.remove(1));
            x.move(2, 0);
            is("it was moved away", x.remove(1), 2);
        });
    }

    private static void move() {
        String words = "Moves an object, with all that is below it, to another parent, or to the one that it has.";
        of("Promise 10", words, "to another parent", () -> {
            PermissionDesk x = chain(1, 0, 5);
            x.make(0, 0);
            x.move(2, 5);
            is("parent", x.parentOf(2), 5);
            is("one below it", x.parentOf(3), 2);
            is("one that is below that", x.parentOf(4), 3);
            is("below the new parent", x.below(5), 3);
            is("below the former one", x.below(1), 0);
        });
        of("Promise 10", words, "to the one that it has", () -> {
            PermissionDesk x = chain(1, 0, 4);
            is("parent before", x.move(2, 1), 1);
            is("parent", x.parentOf(2), 1);
            is("below", x.below(1), 2);
            is("the object 0 as parent", x.move(1, 0), 0);
        });
        of("Promise 10", words, "up, and into another branch", () -> {
            PermissionDesk x = chain(1, 0, 20);
            is("from the lowest place to the highest", x.move(19, 0), 18);
            is("and below it", x.move(1, 19), 0);
            is("below the object 0", x.below(0), 19);
            is("below the one that was lowest", x.below(19), 18);
        });
        of("Promise 10", "Returns the parent before.", () -> {
            PermissionDesk x = chain(1, 0, 4);
            is("parent before", x.move(3, 0), 2);
            is("parent before", x.move(3, 1), 0);
            is("parent before", x.move(3, 2), 1);
        });
    }

    private static void moveRefused() {
        of("Promise 10", "if the object is the object 0", () -> {
            PermissionDesk x = chain(1, 0, 2);
            noState(() -> x.move(0, 1));
            noState(() -> x.move(0, 0));
            PermissionDesk y = new PermissionDesk();
            noState(() -> y.move(0, 0));
        });
        of("Promise 10", "or the parent is the object itself", () -> {
            PermissionDesk x = chain(1, 0, 20);
            noState(() -> x.move(1, 1));
            noState(() -> x.move(19, 19));
        });
        of("Promise 10", "or below it", () -> {
            PermissionDesk x = chain(1, 0, 20);
            for (int below = 2; below < 20; below++) {
                int parent = below;
                noState(() -> x.move(1, parent));
            }
            noState(() -> x.move(18, 19));
            is("beside it", x.move(19, 17), 18);
            is("no more below it", x.move(18, 19), 17);
        });
    }

    private static void giveTo() {
        String words = "Gives an object to another owner, or to the one that it has.";
        of("Promise 11", words, "to another owner", () -> {
            PermissionDesk x = chain(12, 0, 20);
            x.giveTo(19, 11);
            for (int object = 0; object < 20; object++) {
                is("owner of " + object, x.ownerOf(object), object == 19 ? 11 : 0);
            }
            x.giveTo(0, 1);
            is("the object 0, too", x.ownerOf(0), 1);
            x.giveTo(0, 0);
            is("back to the keeper", x.ownerOf(0), 0);
        });
        of("Promise 11", words, "to the one that it has", () -> {
            PermissionDesk x = chain(12, 0, 2);
            x.giveTo(1, 11);
            is("owner before", x.giveTo(1, 11), 11);
            is("owner", x.ownerOf(1), 11);
        });
        of("Promise 11", "Returns the owner before.", () -> {
            PermissionDesk x = desk(12, 0);
            x.make(0, 3);
            is("owner before", x.giveTo(1, 11), 3);
            is("owner before", x.giveTo(1, 0), 11);
            is("owner before", x.giveTo(1, 5), 0);
        });
    }

    private static void setMask() {
        of("Promise 12", "Changes the mask of an object.", () -> {
            PermissionDesk x = chain(1, 0, 20);
            x.setMask(19, 0);
            x.setMask(18, 6);
            for (int object = 0; object < 20; object++) {
                is("mask of " + object, x.maskOf(object), object == 19 ? 0 : object == 18 ? 6 : 15);
            }
            x.setMask(0, 1);
            is("of the object 0, too", x.maskOf(0), 1);
        });
        of("Promise 12", "Returns the mask before.", () -> {
            PermissionDesk x = chain(1, 0, 2);
            int before = 15;
            for (int mask = 0; mask < 16; mask++) {
                is("mask before", x.setMask(1, mask), before);
                before = mask;
            }
            is("the same again", x.setMask(1, 15), 15);
        });
    }

    private static void setInheriting() {
        of("Promise 13", "Changes whether an object inherits.", () -> {
            PermissionDesk x = chain(2, 0, 20);
            x.addForAll(0, 1, true, true);
            x.setInheriting(19, false);
            for (int object = 0; object < 20; object++) {
                is(object + " inherits", x.isInheriting(object), object != 19);
                is("right at " + object, x.isAllowed(1, object, 0), object != 19);
            }
        });
        of("Promise 13", "true: it inherits", () -> {
            PermissionDesk x = chain(2, 0, 2);
            x.addForAll(0, 1, true, true);
            x.setInheriting(1, false);
            is("false", x.isInheriting(1), false);
            is("right", x.isAllowed(1, 1, 0), false);
            x.setInheriting(1, true);
            is("true", x.isInheriting(1), true);
            is("right", x.isAllowed(1, 1, 0), true);
        });
        of("Promise 13", "Returns whether it did before.", () -> {
            PermissionDesk x = chain(1, 0, 20);
            for (int object : new int[] {0, 1, 19}) {
                is("at first", x.setInheriting(object, true), true);
                is("it did", x.setInheriting(object, false), true);
                is("it did not", x.setInheriting(object, false), false);
                is("it did not", x.setInheriting(object, true), false);
                is("it did again", x.setInheriting(object, true), true);
            }
        });
    }

    private static void objects() {
        of("Promise 34", "Returns how many objects there are.", () -> {
            PermissionDesk x = chain(1, 0, 5);
            is("objects", x.objects(), 5);
            x.move(4, 0);
            x.remove(3);
            is("with a gap", x.objects(), 4);
            x.undo();
            is("after undo", x.objects(), 5);
        });
        of("Promise 34", "Returns 1 to 20.", () -> {
            PermissionDesk x = new PermissionDesk();
            is("at first", x.objects(), 1);
            for (int objects = 2; objects <= 20; objects++) {
                x.make(0, 0);
                is("objects", x.objects(), objects);
            }
            noState(() -> x.make(0, 0));
            is("at most", x.objects(), 20);
        });
    }

    private static void isThere() {
        of("Promise 35", "Tells whether there is an object.", () -> {
            PermissionDesk x = new PermissionDesk();
            for (int object = 0; object < 20; object++) {
                is("object " + object, x.isThere(object), object == 0);
            }
            x.make(0, 0);
            is("made", x.isThere(1), true);
            x.remove(1);
            is("removed", x.isThere(1), false);
            x.undo();
            is("removal undone", x.isThere(1), true);
        });
        of("Promise 35", "Returns true if there is one with this number.", () -> {
            PermissionDesk x = chain(1, 0, 20);
            for (int object = 0; object < 20; object++) {
                is("object " + object, x.isThere(object), true);
            }
            for (int number : beyond(20)) {
                is("number " + number, x.isThere(number), false);
            }
        });
    }

    private static void parentOf() {
        of("Promise 36", "Returns the parent of an object.", () -> {
            PermissionDesk x = chain(1, 0, 4);
            is("parent", x.parentOf(3), 2);
            x.move(3, 1);
            is("after moving", x.parentOf(3), 1);
        });
        of("Promise 36", "Returns the parent; NONE for the object 0.", () -> {
            PermissionDesk x = chain(1, 0, 20);
            is("of the object 0", x.parentOf(0), NONE);
            for (int object = 1; object < 20; object++) {
                is("of " + object, x.parentOf(object), object - 1);
            }
        });
    }

    private static void ownerOf() {
        of("Promise 37", "Returns the owner of an object.", () -> {
            PermissionDesk x = desk(12, 0);
            x.make(0, 11);
            is("owner", x.ownerOf(1), 11);
            x.giveTo(1, 10);
            is("after giving", x.ownerOf(1), 10);
            is("of the parent", x.ownerOf(0), 0);
        });
        of("Promise 37", "Returns the owner.", () -> {
            PermissionDesk x = desk(12, 0);
            for (int object = 1; object < 20; object++) {
                x.make(0, object * 5 % 12);
            }
            for (int object = 0; object < 20; object++) {
                is("of " + object, x.ownerOf(object), object * 5 % 12);
            }
        });
    }

    private static void maskOf() {
        of("Promise 38", "Returns the mask of an object.", () -> {
            PermissionDesk x = chain(1, 0, 2);
            is("at first", x.maskOf(1), 15);
            x.setMask(1, 5);
            is("mask", x.maskOf(1), 5);
            is("of the parent", x.maskOf(0), 15);
        });
        of("Promise 38", "Returns the mask.", () -> {
            PermissionDesk x = chain(1, 0, 20);
            for (int object = 0; object < 20; object++) {
                x.setMask(object, object * 7 % 16);
            }
            for (int object = 0; object < 20; object++) {
                is("of " + object, x.maskOf(object), object * 7 % 16);
            }
        });
    }

    private static void isInheriting() {
        of("Promise 39", "Tells whether an object inherits.", () -> {
            PermissionDesk x = chain(1, 0, 3);
            x.setInheriting(1, false);
            is("it does not", x.isInheriting(1), false);
            is("its parent does", x.isInheriting(0), true);
            is("one below it does", x.isInheriting(2), true);
        });
        of("Promise 39", "Returns true if it does.", () -> {
            PermissionDesk x = chain(1, 0, 20);
            for (int object = 0; object < 20; object++) {
                x.setInheriting(object, object % 3 == 0);
            }
            for (int object = 0; object < 20; object++) {
                is(object + " does", x.isInheriting(object), object % 3 == 0);
            }
        });
    }

    private static void below() {
        of("Promise 40", "Returns how many objects are below an object.", () -> {
            PermissionDesk x = desk(1, 0);
            is("nothing", x.below(0), 0);
            x.make(0, 0);
            x.make(0, 0);
            x.make(1, 0);
            x.make(3, 0);
            is("below 0", x.below(0), 4);
            is("below 1", x.below(1), 2);
            is("below 2", x.below(2), 0);
            is("below 3", x.below(3), 1);
            is("below 4", x.below(4), 0);
            x.remove(4);
            is("after removing", x.below(1), 1);
            x.move(3, 2);
            is("after moving", x.below(1), 0);
            is("there", x.below(2), 1);
        });
        of("Promise 40", "Returns how many.", () -> {
            PermissionDesk x = chain(1, 0, 20);
            for (int object = 0; object < 20; object++) {
                is("in a chain, below " + object, x.below(object), 19 - object);
            }
            PermissionDesk y = desk(1, 0);
            for (int object = 1; object < 20; object++) {
                y.make(0, 0);
            }
            is("side by side, below 0", y.below(0), 19);
            is("side by side, below 19", y.below(19), 0);
        });
    }
}
