/** Sentences of the promises 22 to 27, and of what the document tells of texts. */
final class TextSentences extends Sentences {

    private static final String FAULT = "The fault of the pad is the position, from 0, of the first character that is "
            + "wrong: no list as a text, of any length, begins with the characters before it and this character;";

    private TextSentences() {
    }

    static void run() {
        pad();
        listAsText();
        entryAsText();
        whoIsMeant();
        rightsAsText();
        numbers();
        wrongCharacter();
        notComplete();
        append();
        clear();
        fault();
        loadEntries();
        loadEntriesRefused();
        refusedBefore();
        writeEntries();
        codeAt();
    }

    /** The text has no fault. */
    private static void right(String text) {
        PermissionDesk x = new PermissionDesk();
        append(x, text);
        is(text, x.fault(), NONE);
    }

    /** The bar stands ahead of the first wrong character; what comes behind it does not matter. */
    private static void wrong(String marked) {
        String text = marked.replace("|", "");
        int fault = marked.indexOf('|');
        PermissionDesk x = new PermissionDesk();
        append(x, text.substring(0, fault + 1));
        is(text.substring(0, fault + 1), x.fault(), fault);
        append(x, text.substring(fault + 1) + ":+a=r");
        is(text + ":+a=r", x.fault(), fault);
    }

    /** Each character is taken, but more are needed. */
    private static void open(String text) {
        PermissionDesk x = new PermissionDesk();
        append(x, text);
        is(text, x.fault(), text.length());
    }

    /** No character but these can follow the text. */
    private static void onlyThese(String text, String next) {
        for (char sign = 33; sign <= 126; sign++) {
            PermissionDesk x = new PermissionDesk();
            append(x, text + sign);
            int fault = x.fault();
            boolean isTaken = fault == NONE || fault == text.length() + 1;
            is(text + sign + " is taken", isTaken, next.indexOf(sign) >= 0);
            if (!isTaken) {
                is(text + sign, fault, text.length());
            }
        }
    }

    private static void pad() {
        of("Terms", "There is a pad of at most 80 characters", () -> {
            PermissionDesk x = new PermissionDesk();
            for (int length = 1; length <= 80; length++) {
                is("length", x.append(32 + length), length);
            }
            noState(() -> x.append('!'));
            for (int place = 0; place < 80; place++) {
                is("place " + place, x.codeAt(place), 33 + place);
            }
        });
        of("Terms", "initially empty.", () -> {
            PermissionDesk x = new PermissionDesk();
            for (int place = 0; place < 80; place++) {
                is("place " + place, x.codeAt(place), NONE);
            }
            is("fault", x.fault(), 0);
            is("length", x.clear(), 0);
        });
    }

    private static void listAsText() {
        String words = "A list as a text is: an object, 0 to 19, \":\", and then nothing (for an empty list), or one to "
                + "six entries with \";\" between two.";
        of("Terms", words, "an object, 0 to 19", () -> {
            for (int object = 0; object < 20; object++) {
                right(object + ":");
                right(object + ":+a=r");
            }
            onlyThese("", "0123456789");
            onlyThese("1", "0123456789:");
            onlyThese("2", ":");
            onlyThese("9", ":");
            onlyThese("0", ":");
            onlyThese("10", ":");
            onlyThese("19", ":");
            wrong("2|0:");
            wrong("1:|:");
        });
        of("Terms", words, "and then nothing", () -> {
            right("0:");
            right("19:");
            onlyThese("0:", "+-");
            onlyThese("19:", "+-");
        });
        of("Terms", words, "one to six entries", () -> {
            StringBuilder text = new StringBuilder("0:+a=r");
            for (int entries = 1; entries <= 5; entries++) {
                right(text.toString());
                open(text + ";");
                onlyThese(text.toString(), "wxm*;");
                text.append(";-a=r");
            }
            right(text.toString());
            onlyThese(text.toString(), "wxm*");
            wrong(text + "|;");
            wrong(text + "*|;+a=r");
        });
        of("Terms", words, "with \";\" between two", () -> {
            open("0:+a=r;");
            right("0:+a=r;-a=r");
            onlyThese("0:+a=r;", "+-");
            onlyThese("0:+a=r*;", "+-");
            wrong("0:|;+a=r");
            wrong("0:+a=r|+a=r");
            wrong("0:+a=r*|-a=r");
            wrong("0:+a=r;|;+a=r");
            wrong("0:+a=r|,+a=r");
        });
        of("Terms", words, "the longest one", () -> {
            String entry = "-u11=rwxm*";
            String text = "19:" + entry;
            for (int n = 1; n < 6; n++) {
                text += ";" + entry;
            }
            is("characters", text.length(), 68);
            right(text);
            onlyThese(text, "");
        });
    }

    private static void entryAsText() {
        of("Terms", "An entry is: \"+\" (it allows) or \"-\" (it refuses);", () -> {
            right("0:+a=r");
            right("0:-a=r");
            PermissionDesk x = desk(1, 0);
            load(x, "0:+a=r;-a=r");
            is("it allows", x.isAllowing(0, 0), true);
            is("it refuses", x.isAllowing(0, 1), false);
            onlyThese("0:+", "ugoa");
            onlyThese("0:-", "ugoa");
            wrong("0:|a=r");
            wrong("0:+|+a=r");
            wrong("0:-|+a=r");
        });
        of("Terms", "\"=\";", () -> {
            for (String who : new String[] {"u2", "u0", "u10", "u11", "g0", "g7", "o", "a"}) {
                onlyThese("0:+" + who, "=");
                wrong("0:+" + who + "|r");
                wrong("0:+" + who + "=|=r");
            }
        });
        of("Terms", "and \"*\", if it counts below, too.", () -> {
            right("0:+a=r*");
            PermissionDesk x = desk(1, 0);
            load(x, "0:+a=r;-a=r*");
            is("at its object alone", x.isForBelow(0, 0), false);
            is("below, too", x.isForBelow(0, 1), true);
            onlyThese("0:+a=r*", ";");
            wrong("0:+a=r*|*");
            wrong("0:+a=|*");
            wrong("0:+a|*=r");
            wrong("0:|*+a=r");
        });
    }

    private static void whoIsMeant() {
        of("Terms", "\"u\" and a user, 0 to 11,", () -> {
            PermissionDesk x = desk(12, 0);
            for (int user = 0; user < 12; user++) {
                load(x, "0:+u" + user + "=r");
                is("user", x.userOfEntry(0, 0), user);
            }
            onlyThese("0:+u", "0123456789");
            onlyThese("0:+u1", "01=");
            wrong("0:+u1|2=r");
            wrong("0:+u2|0=r");
            wrong("0:+u|=r");
        });
        of("Terms", "\"g\" and a group, 0 to 7,", () -> {
            PermissionDesk x = desk(1, 8);
            for (int group = 0; group < 8; group++) {
                load(x, "0:+g" + group + "=r");
                is("group", x.groupOfEntry(0, 0), group);
            }
            onlyThese("0:+g", "01234567");
            onlyThese("0:+g1", "=");
            wrong("0:+g|8=r");
            wrong("0:+g1|0=r");
            wrong("0:+g|=r");
        });
        of("Terms", "\"o\" (for the owner),", () -> {
            PermissionDesk x = desk(1, 0);
            load(x, "0:+o=r");
            is("for the owner", x.isForOwner(0, 0), true);
            is("for a user", x.userOfEntry(0, 0), NONE);
            is("for a group", x.groupOfEntry(0, 0), NONE);
            wrong("0:+o|0=r");
        });
        of("Terms", "or \"a\" (for all);", () -> {
            PermissionDesk x = desk(12, 0);
            load(x, "0:+a=r");
            is("for the owner", x.isForOwner(0, 0), false);
            is("for a user", x.userOfEntry(0, 0), NONE);
            is("for a group", x.groupOfEntry(0, 0), NONE);
            is("for all", x.usersWith(0, 0), 12);
            wrong("0:+a|0=r");
        });
    }

    private static void rightsAsText() {
        String words = "its rights, each at most once, in the order \"r\" (to read), \"w\" (to write), \"x\" (to run), "
                + "\"m\" (to manage), one at least;";
        of("Terms", words, "all sets of them", () -> {
            PermissionDesk x = desk(2, 0);
            for (int set = 1; set < 16; set++) {
                load(x, "0:+u1=" + rights(set));
                is("rights", x.rightsOfEntry(0, 0), set);
                is("rights of the user", x.rightsOf(1, 0), set);
            }
        });
        of("Terms", words, "each at most once", () -> {
            for (int set = 1; set < 16; set++) {
                String text = rights(set);
                wrong("0:+a=" + text + "|" + text.charAt(text.length() - 1));
                wrong("0:+a=" + text + "|" + text.charAt(0));
            }
        });
        of("Terms", words, "in this order", () -> {
            onlyThese("0:+a=", "rwxm");
            onlyThese("0:+a=r", "wxm*;");
            onlyThese("0:+a=w", "xm*;");
            onlyThese("0:+a=x", "m*;");
            onlyThese("0:+a=m", "*;");
            onlyThese("0:+a=rx", "m*;");
            onlyThese("0:+a=rwxm", "*;");
            wrong("0:+a=w|r");
            wrong("0:+a=rm|w");
        });
        of("Terms", words, "one at least", () -> {
            open("0:+a=");
            wrong("0:+a=|;+a=r");
            wrong("0:+a=|*");
        });
    }

    private static void numbers() {
        of("Terms", "Numbers have no needless 0 ahead.", () -> {
            for (int digit = 0; digit < 10; digit++) {
                wrong("0|" + digit + ":");
                wrong("0:+u0|" + digit + "=r");
                wrong("0:+g0|" + digit + "=r");
            }
            right("0:+u0=r;+g0=r");
            wrong("|-1:");
            wrong("|+1:");
        });
    }

    private static void wrongCharacter() {
        of("Terms", FAULT, "at each place of a text", () -> {
            String text = "10:+u11=rwxm*;-g7=w;+o=x*;-a=rm";
            right(text);
            for (int place = 0; place < text.length(); place++) {
                wrong(text.substring(0, place) + "|!" + text.substring(place + 1));
                wrong(text.substring(0, place) + "|~");
            }
            wrong(text + "|!");
        });
        of("Terms", FAULT, "the first one of several", () -> {
            wrong("0:|!+a!=r!");
            wrong("0:+a=r|r;;");
            wrong("|!0:");
        });
        of("Terms", FAULT, "of any length, up to the full pad", () -> {
            PermissionDesk x = new PermissionDesk();
            append(x, "19:+u11=rwxm*;+u11=rwxm*;+u11=rwxm*;+u11=rwxm*;+u11=rwxm*;+u11=rwxm*");
            for (int length = 69; length <= 80; length++) {
                x.append(';');
                is("length " + length, x.fault(), 68);
            }
            PermissionDesk y = new PermissionDesk();
            for (int length = 1; length <= 80; length++) {
                y.append('0');
                is("length " + length, y.fault(), 1);
            }
        });
        of("Terms", FAULT, "whatever there is on the desk", () -> {
            PermissionDesk x = new PermissionDesk();
            append(x, "19:+u11=r;-g7=w");
            is("no such object, user or group", x.fault(), NONE);
        });
    }

    private static void notComplete() {
        String words = "if there is none, and the pad is not complete (also if it is empty), the length of the pad.";
        of("Terms", words, "the beginnings of a text", () -> {
            String text = "10:+u11=rwxm*;-g7=w;+o=x*;-a=r";
            String complete = " 3 9 10 11 12 13 19 24 25 30 ";
            for (int length = 1; length <= text.length(); length++) {
                if (complete.contains(" " + length + " ")) {
                    right(text.substring(0, length));
                } else {
                    open(text.substring(0, length));
                }
            }
        });
        of("Terms", words, "also if it is empty", () -> {
            PermissionDesk x = new PermissionDesk();
            is("at first", x.fault(), 0);
            append(x, "0:");
            x.clear();
            is("emptied", x.fault(), 0);
            load(x, "0:");
            is("loaded", x.fault(), 0);
        });
    }

    private static void append() {
        of("Promise 22", "Appends a character to the pad.", () -> {
            PermissionDesk x = new PermissionDesk();
            append(x, "b!~a");
            is("pad", typed(x), "b!~a");
            x.append('b');
            is("behind the others", typed(x), "b!~ab");
            x.writeEntries(0);
            x.append('+');
            is("behind what was written", typed(x), "0:+");
        });
        of("Promise 22", "the character code, 33 to 126", "kept as it is told", () -> {
            for (int code = 33; code <= 126; code++) {
                PermissionDesk x = new PermissionDesk();
                x.append(code);
                is("code", x.codeAt(0), code);
            }
        });
        of("Promise 22", "Returns the length of the pad then.", () -> {
            PermissionDesk x = new PermissionDesk();
            for (int length = 1; length <= 80; length++) {
                is("length", x.append('!'), length);
            }
        });
        of("Promise 22", "if the pad has 80 characters", () -> {
            PermissionDesk x = new PermissionDesk();
            for (int length = 1; length <= 79; length++) {
                x.append('!');
            }
            is("it has 79", x.append('~'), 80);
            noState(() -> x.append('!'));
            noState(() -> x.append('!'));
            is("the last one", x.codeAt(79), (int) '~');
            x.clear();
            is("emptied", x.append('!'), 1);
        });
    }

    private static void clear() {
        of("Promise 23", "Empties the pad.", () -> {
            PermissionDesk x = new PermissionDesk();
            append(x, "0:+a=r");
            x.clear();
            is("pad", typed(x), "");
            is("fault", x.fault(), 0);
            x.append('1');
            is("what is appended then", typed(x), "1");
        });
        of("Promise 23", "Returns the length that it had.", () -> {
            PermissionDesk x = new PermissionDesk();
            is("empty", x.clear(), 0);
            for (int length : new int[] {1, 2, 79, 80}) {
                for (int n = 0; n < length; n++) {
                    x.append('!');
                }
                is("length", x.clear(), length);
                is("empty", x.clear(), 0);
            }
        });
    }

    private static void fault() {
        of("Promise 24", "Returns the fault of the pad.", () -> {
            PermissionDesk x = new PermissionDesk();
            append(x, "0:+a=rr");
            is("fault", x.fault(), 6);
            is("the same again", x.fault(), 6);
            is("the pad stays", typed(x), "0:+a=rr");
        });
        of("Promise 24", "Returns the fault; NONE if it has none.", () -> {
            right("0:");
            right("19:+u11=rwxm*;-u0=r;+g0=w;-g7=x;+o=m;-a=rm*");
            open("1");
            wrong("|:");
        });
    }

    private static void loadEntries() {
        String words = "Takes the list that the pad tells in place of the one of its object, and empties the pad.";
        of("Promise 25", words, () -> {
            PermissionDesk x = chain(12, 8, 20);
            load(x, "18:+a=r");
            load(x, "19:-a=w;-a=x;-a=m");
            append(x, "19:+u11=rwxm*;-g7=w;+o=x*;-a=rm;+u0=r;+g0=m");
            x.loadEntries();
            is("list", list(x, 19), "19:+u11=rwxm*;-g7=w;+o=x*;-a=rm;+u0=r;+g0=m");
            is("the pad", typed(x), "");
            is("the other list", list(x, 18), "18:+a=r");
        });
        of("Promise 25", words, "nothing is left of a longer one", () -> {
            PermissionDesk x = chain(2, 0, 2);
            load(x, "0:-u0=r;+a=w*;+a=r*;+a=x*;+a=m*;+a=r*");
            load(x, "0:-u0=r");
            for (int right = 0; right < 4; right++) {
                is("right " + right, x.isAllowed(1, 1, right), false);
                is("by handing down, " + right, x.isAllowedByHandingDown(1, 1, right), false);
                is("deciding entry, " + right, x.decidingEntry(1, 0, right), NONE);
            }
            x.addForAll(0, 2, true, true);
            is("what is added then", list(x, 0), "0:-u0=r;+a=w*");
        });
        of("Promise 25", words, "an empty one", () -> {
            PermissionDesk x = desk(2, 0);
            load(x, "0:+a=r;+a=w;+a=x;+a=m;-a=r;-a=w");
            append(x, "0:");
            is("entries", x.loadEntries(), 0);
            is("list", list(x, 0), "0:");
            is("the pad", typed(x), "");
            is("nothing counts any more", x.rightsOf(1, 0), 0);
            append(x, "0:");
            is("in place of an empty one", x.loadEntries(), 0);
        });
        of("Promise 25", "Returns how many entries the list has then.", () -> {
            PermissionDesk x = desk(1, 0);
            StringBuilder text = new StringBuilder("0:");
            for (int entries = 0; entries <= 6; entries++) {
                append(x, text.toString());
                is("entries", x.loadEntries(), entries);
                text.append(entries == 0 ? "" : ";").append("-a=r");
            }
            append(x, "0:+a=r");
            is("in place of six", x.loadEntries(), 1);
        });
    }

    private static void loadEntriesRefused() {
        of("Promise 25", "if the pad has a fault", () -> {
            PermissionDesk x = desk(12, 8);
            noState(() -> x.loadEntries());
            for (String text : new String[] {"0", "0:+", "0:+a=", "0:+a=r;", "0:+a=rr", "00:", "0:!", "0:+a=r!",
                "0:+u12=r", "0:+g8=r", "20:", "0:+a=r;+a=r;+a=r;+a=r;+a=r;+a=r;+a=r"}) {
                type(x, text);
                noState(() -> x.loadEntries());
                is("the pad", typed(x), text);
            }
            is("list", list(x, 0), "0:");
        });
        String words = "or tells of an object, a user or a group that there is not";
        of("Promise 25", words, "an object", () -> {
            PermissionDesk x = chain(1, 0, 19);
            refusedThenTaken(x, "19:", () -> x.make(0, 0));
            x.remove(19);
            type(x, "19:+a=r");
            noState(() -> x.loadEntries());
        });
        of("Promise 25", words, "a user", () -> {
            PermissionDesk x = desk(11, 0);
            refusedThenTaken(x, "0:+u11=r", () -> x.addUser());
            PermissionDesk y = desk(1, 8);
            refusedThenTaken(y, "0:+a=r;+g7=r;+u0=r;-o=r;+a=w;-u1=m*", () -> y.addUser());
        });
        of("Promise 25", words, "a group", () -> {
            PermissionDesk x = desk(12, 7);
            refusedThenTaken(x, "0:+g7=r", () -> x.addGroup());
            PermissionDesk y = desk(12, 0);
            refusedThenTaken(y, "0:+a=r;+u11=r;+u0=r;-o=r;+a=w;-g0=m*", () -> y.addGroup());
        });
    }

    private static void refusedBefore() {
        String words = "or tells of an object, a user or a group that there is not";
        of("Promise 25", words, "what another text told does not matter", () -> {
            PermissionDesk x = desk(1, 0);
            type(x, "0:+a=r;+u11=r;+g7=r;+u11=r;+g7=r;+u11=r");
            noState(() -> x.loadEntries());
            type(x, "0:+a=w");
            is("entries", x.loadEntries(), 1);
            type(x, "19:");
            noState(() -> x.loadEntries());
            type(x, "0:");
            is("entries", x.loadEntries(), 0);
        });
    }

    /** The pad tells of one more than there is, and so can be loaded when that has come. */
    private static void refusedThenTaken(PermissionDesk x, String text, Runnable comes) {
        type(x, text);
        is("fault", x.fault(), NONE);
        noState(() -> x.loadEntries());
        is("the pad", typed(x), text);
        comes.run();
        x.loadEntries();
        int object = Integer.parseInt(text.substring(0, text.indexOf(':')));
        is("list", list(x, object), text);
    }

    private static void writeEntries() {
        String words = "Writes the list of an object as a text into the pad, in place of what it had.";
        of("Promise 26", words, "an empty list", () -> {
            PermissionDesk x = chain(1, 0, 20);
            for (int object = 0; object < 20; object++) {
                x.writeEntries(object);
                is("pad", typed(x), object + ":");
            }
        });
        of("Promise 26", words, "each kind of entry", () -> {
            PermissionDesk x = desk(12, 8);
            for (int rights = 1; rights < 16; rights++) {
                x.addForUser(0, rights % 12, rights, rights % 2 == 0, rights % 3 == 0);
                x.addForGroup(0, rights % 8, 16 - rights, true, true);
                x.addForOwner(0, rights, false, false);
                x.addForAll(0, 16 - rights, rights % 2 == 0, rights % 3 == 0);
                x.writeEntries(0);
                is("pad", typed(x).equals(list(x, 0)), true);
                while (x.entriesOf(0) > 0) {
                    x.removeEntry(0, 0);
                }
                if (rights % 4 == 0) {
                    x = desk(12, 8);
                }
            }
        });
        of("Promise 26", words, "in place of what it had", () -> {
            PermissionDesk x = desk(1, 0);
            for (int length = 0; length < 80; length++) {
                x.append('!');
            }
            is("length", x.writeEntries(0), 2);
            is("pad", typed(x), "0:");
        });
        of("Promise 26", words, "what is loaded again is the same", () -> {
            PermissionDesk x = chain(12, 8, 20);
            load(x, "19:-u10=rx*;+g0=wm;-g7=rwxm*;+u1=m;-o=w*;+a=x");
            x.writeEntries(19);
            is("fault", x.fault(), NONE);
            is("entries", x.loadEntries(), 6);
            is("list", list(x, 19), "19:-u10=rx*;+g0=wm;-g7=rwxm*;+u1=m;-o=w*;+a=x");
        });
        of("Promise 26", "This is no change.", () -> {
            PermissionDesk x = new PermissionDesk();
            x.writeEntries(0);
            noState(() -> x.undo());
            PermissionDesk y = Stage.SOME.desk();
            String before = seen(y);
            y.writeEntries(1);
            is("what is seen", seen(y), before);
            is("states", y.undo(), 4);
        });
        of("Promise 26", "Returns the length of the pad then.", () -> {
            PermissionDesk x = chain(12, 0, 20);
            is("the shortest one", x.writeEntries(9), 2);
            is("two digits", x.writeEntries(10), 3);
            x.addForAll(0, 1, true, false);
            is("one entry", x.writeEntries(0), 6);
            load(x, "19:+u11=rwxm*;-u11=rwxm*;+u11=rwxm*;-u11=rwxm*;+u11=rwxm*;-u11=rwxm*");
            is("the longest one", x.writeEntries(19), 68);
        });
    }

    private static void codeAt() {
        of("Promise 27", "Returns a character of the pad.", () -> {
            PermissionDesk x = new PermissionDesk();
            append(x, "b!~a");
            is("codes", x.codeAt(0) + " " + x.codeAt(1) + " " + x.codeAt(2) + " " + x.codeAt(3), "98 33 126 97");
        });
        of("Promise 27", "Returns its code; NONE if the pad has not so many.", () -> {
            PermissionDesk x = new PermissionDesk();
            for (int length = 0; length <= 80; length++) {
                if (length > 0) {
                    is("the last one", x.codeAt(length - 1), 33);
                }
                if (length < 80) {
                    is("the one behind", x.codeAt(length), NONE);
                    x.append(33);
                }
            }
            x.clear();
            is("after clearing", x.codeAt(0), NONE);
            is("after clearing", x.codeAt(79), NONE);
            x.writeEntries(0);
            is("after writing", x.codeAt(1), (int) ':');
            is("what was there before", x.codeAt(2), NONE);
        });
    }
}
