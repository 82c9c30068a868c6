import java.lang.reflect.Method;
import java.util.Arrays;
import java.util.LinkedHashMap;
import java.util.List;
import java.util.Map;

/** The sentences of "Changes and exceptions". */
final class ChangeSentences extends Sentences {

    private static final String CHANGES = "The changes are the calls of addUser, addGroup, join, leave, nest, unnest, "
            + "make, remove, move, giveTo, setMask, setInheriting, addForUser, addForGroup, addForOwner, addForAll, "
            + "removeEntry, moveEntry, ask, share, loadEntries and restore that throw no exception.";
    private static final String STATE = "The state is everything but the pad, the slots and the history.";
    private static final String SEVERAL =
            "If several apply to a call, the one that is named first in its throws clause is thrown.";
    private static final String NOTHING = "A call that throws an exception changes nothing (the pad stays, too).";
    private interface Act {
        Object on(PermissionDesk x);
    }

    private ChangeSentences() {
    }

    static void run() {
        for (Map.Entry<String, Act> each : changes().entrySet()) {
            change(each.getKey(), each.getValue());
        }
        for (Map.Entry<String, Act> each : changesToTheSame().entrySet()) {
            changeToTheSame(each.getKey(), each.getValue());
        }
        noChanges();
        whatIsOfTheState();
        whatIsNotOfTheState();
        history();
        whatIsThrown();
        whichIsFirst();
        whichIsFirstOfAll();
        refusedForArguments();
        refusedForTheState();
    }

    /** One call of each kind that changes the stage "some", or "young". */
    private static Map<String, Act> changes() {
        Map<String, Act> acts = new LinkedHashMap<>();
        acts.put("addUser", x -> x.addUser());
        acts.put("addGroup", x -> x.addGroup());
        acts.put("join", x -> x.join(0, 1));
        acts.put("leave", x -> x.leave(1, 0));
        acts.put("nest", x -> x.nest(1, 2));
        acts.put("unnest", x -> x.unnest(0, 1));
        acts.put("make", x -> x.make(3, 1));
        acts.put("remove", x -> x.remove(3));
        acts.put("move", x -> x.move(3, 0));
        acts.put("giveTo", x -> x.giveTo(3, 1));
        acts.put("setMask", x -> x.setMask(1, 6));
        acts.put("setInheriting", x -> x.setInheriting(1, false));
        acts.put("addForUser", x -> x.addForUser(1, 1, 9, false, true));
        acts.put("addForGroup", x -> x.addForGroup(1, 1, 9, false, true));
        acts.put("addForOwner", x -> x.addForOwner(1, 9, false, true));
        acts.put("addForAll", x -> x.addForAll(1, 9, false, true));
        acts.put("removeEntry", x -> x.removeEntry(1, 0));
        acts.put("moveEntry", x -> x.moveEntry(1, 0, 2));
        acts.put("ask", x -> x.ask(1, 1, 2));
        acts.put("share", x -> x.share(0, 1, 1, 5));
        acts.put("loadEntries", x -> loaded(x, "1:+o=m*"));
        acts.put("restore", x -> x.restore(0));
        return acts;
    }

    /** Calls that bring what there is on the stage "some" already. */
    private static Map<String, Act> changesToTheSame() {
        Map<String, Act> acts = new LinkedHashMap<>();
        acts.put("move", x -> x.move(3, 1));
        acts.put("giveTo", x -> x.giveTo(1, 1));
        acts.put("setMask", x -> x.setMask(3, 7));
        acts.put("setInheriting", x -> x.setInheriting(3, false));
        acts.put("moveEntry", x -> x.moveEntry(1, 1, 1));
        acts.put("loadEntries", x -> loaded(x, "1:+u1=rw*;-g0=w;-o=x"));
        acts.put("restore", x -> saved(x).restore(1));
        return acts;
    }

    private static Object loaded(PermissionDesk x, String text) {
        type(x, text);
        return x.loadEntries();
    }

    private static PermissionDesk saved(PermissionDesk x) {
        x.save(1);
        return x;
    }

    private static void change(String name, Act act) {
        for (Stage stage : new Stage[] {Stage.SOME, Stage.YOUNG}) {
            of("Terms", CHANGES, name + ", " + stage.name, () -> {
                PermissionDesk x = stage.desk();
                String before = seen(x);
                act.on(x);
                is("something is different", seen(x).equals(before), false);
                othersStay(name, x, stage.desk());
                undone(stage, x, before);
                is("the slots", slots(x), slots(stage.desk()));
            });
        }
    }

    /** The log is changed by requests alone, the pad by loading alone. */
    private static void othersStay(String name, PermissionDesk x, PermissionDesk before) {
        if (!name.equals("ask") && !name.equals("restore")) {
            is("the log", log(x), log(before));
        }
        if (!name.equals("loadEntries")) {
            is("the pad", typed(x), typed(before));
        }
    }

    private static void changeToTheSame(String name, Act act) {
        String words = "each change records the state before it (also if nothing is different then)";
        of("Terms", words, name, () -> {
            PermissionDesk x = Stage.SOME.desk();
            String before = seen(x);
            act.on(x);
            is("nothing is different", seen(x), before);
            undone(Stage.SOME, x, before);
        });
    }

    /** After one change: undo brings back the state before it, and the history of the stage. */
    private static void undone(Stage stage, PermissionDesk x, String before) {
        String[] states = trail(stage.desk()).split("\n");
        int kept = Math.min(5, states.length + 1);
        is("states but the latest one", x.undo(), kept - 1);
        is("what is seen then", seen(x), before);
        for (int n = 0; n < kept - 1; n++) {
            is("states", x.undo(), kept - 2 - n);
            is("the state before", brief(x), states[n]);
        }
        noState(() -> x.undo());
    }

    /** Some numbers that tell the states of a stage's history apart. */
    private static String brief(PermissionDesk x) {
        return x.users() + " " + x.groups() + " " + x.objects() + " " + x.requests() + " " + x.allRights() + " "
                + x.entriesOf(0);
    }

    /** The states of the history, the latest one first; the history is empty then. */
    private static String trail(PermissionDesk x) {
        StringBuilder text = new StringBuilder();
        for (int n = 0; n < 6; n++) {
            Object left = Check.outcome(() -> x.undo());
            if (!(left instanceof Integer)) {
                return text.toString();
            }
            text.append(brief(x)).append('\n');
        }
        return text.append("too many").toString();
    }

    /** What the slots bring back. */
    private static String slots(PermissionDesk x) {
        String text = "";
        for (int slot = 0; slot < 2; slot++) {
            int from = slot;
            Object restored = Check.outcome(() -> x.restore(from));
            text += "\nslot " + restored + " " + (restored instanceof Integer ? brief(x) : "");
        }
        return text;
    }

    /** All that there is: the pad, the state, the history, and the slots. */
    private static String everything(PermissionDesk x) {
        return typed(x) + "\n" + seen(x) + "\n" + trail(x) + slots(x);
    }

    /** Calls that are no changes leave the state and the history as they are. */
    private static void noChanges() {
        Map<String, Act> changes = changes();
        for (Method method : Face.METHODS) {
            String name = method.getName();
            if (!changes.containsKey(name) && !name.equals("undo")) {
                of("Terms", CHANGES, name + " is none", () -> {
                    noChange(method, Stage.SOME);
                    noChange(method, Stage.YOUNG);
                    noChangeAtOnce(method);
                });
            }
        }
        of("Terms", CHANGES, "undo is none", () -> {
            PermissionDesk x = desk(4, 0);
            is("two left", x.undo(), 2);
            is("one left", x.undo(), 1);
            is("users", x.users(), 2);
        });
    }

    /** All stays, but the pad where the call is there for it, and the slots where they are saved to. */
    private static void noChange(Method method, Stage stage) {
        String name = method.getName();
        PermissionDesk x = stage.desk();
        PermissionDesk y = stage.desk();
        Object[] values = ArgumentSentences.highest(Face.roles(name), stage);
        Object outcome = Face.outcome(method, x, values);
        is(name + " is taken: " + outcome, outcome instanceof String, false);
        if (!name.equals("append") && !name.equals("clear") && !name.equals("writeEntries")) {
            is("the pad", typed(x), typed(y));
        }
        is("what is seen", seen(x), seen(y));
        is("history", trail(x), trail(y));
        if (!name.equals("save")) {
            is("the slots", slots(x), slots(y));
        }
    }

    /** History and slots are looked at with no other calls between. */
    private static void noChangeAtOnce(Method method) {
        Object[] values = ArgumentSentences.highest(Face.roles(method.getName()), Stage.ONE);
        PermissionDesk x = Stage.ONE.desk();
        Face.outcome(method, x, values);
        is("undo", x.undo(), 2);
        PermissionDesk y = Stage.ONE.desk();
        Face.outcome(method, y, values);
        is("slot 0", y.restore(0), 1);
        PermissionDesk z = Stage.ONE.desk();
        Face.outcome(method, z, values);
        is("slot 1", z.restore(1), 1);
        PermissionDesk bare = new PermissionDesk();
        Face.outcome(method, bare, ArgumentSentences.highest(Face.roles(method.getName()), Stage.BARE));
        noState(() -> bare.undo());
        if (!method.getName().equals("save")) {
            noState(() -> bare.restore(0));
            noState(() -> bare.restore(1));
        }
    }

    private static void whatIsOfTheState() {
        of("Terms", STATE, "all of each object", () -> {
            for (int object = 0; object < 20; object++) {
                PermissionDesk x = chain(11, 8, 20);
                for (int entry = 0; entry < 6; entry++) {
                    x.addForUser(object, 10 - entry, 15 - entry, entry % 2 == 0, entry % 3 == 0);
                }
                x.giveTo(object, 10);
                x.setMask(object, 5);
                x.setInheriting(object, false);
                String before = one(x, object);
                x.save(0);
                changeAll(x, object);
                for (int n = 0; n < 5; n++) {
                    x.undo();
                }
                is("undone", one(x, object), before);
                changeAll(x, object);
                x.restore(0);
                is("restored", one(x, object), before);
            }
        });
        of("Terms", STATE, "each member", () -> {
            for (int user = 0; user < 12; user++) {
                for (int group = 0; group < 8; group++) {
                    PermissionDesk x = desk(12, 8);
                    x.save(0);
                    x.join(user, group);
                    x.save(1);
                    x.restore(0);
                    is("no member at first", x.isMember(user, group), false);
                    x.undo();
                    is("undone", x.isMember(user, group), true);
                    x.leave(user, group);
                    x.restore(1);
                    is("restored", x.isMember(user, group), true);
                }
            }
        });
        of("Terms", STATE, "each nesting", () -> {
            for (int inner = 0; inner < 8; inner++) {
                for (int outer = 0; outer < 8; outer++) {
                    if (inner != outer) {
                        PermissionDesk x = desk(1, 8);
                        x.save(0);
                        x.nest(inner, outer);
                        x.save(1);
                        x.restore(0);
                        is("not nested at first", x.isNested(inner, outer), false);
                        x.undo();
                        is("undone", x.isNested(inner, outer), true);
                        x.unnest(inner, outer);
                        x.restore(1);
                        is("restored", x.isNested(inner, outer), true);
                    }
                }
            }
        });
    }

    /** What can be seen of one object. */
    private static String one(PermissionDesk x, int object) {
        return list(x, object) + " " + x.parentOf(object) + " " + x.ownerOf(object) + " " + x.maskOf(object) + " "
                + x.isInheriting(object);
    }

    /** Five changes; an object that has a parent gets another one. */
    private static void changeAll(PermissionDesk x, int object) {
        load(x, object + ":-a=r");
        x.giveTo(object, 1);
        x.setMask(object, 10);
        x.setInheriting(object, true);
        if (object < 2) {
            x.addUser();
        } else {
            x.move(object, 0);
        }
    }

    private static void whatIsNotOfTheState() {
        of("Terms", STATE, "undo leaves the pad", () -> {
            PermissionDesk x = new PermissionDesk();
            append(x, "0:");
            x.addUser();
            append(x, "+a=r");
            x.undo();
            is("appended since", typed(x), "0:+a=r");
            x.loadEntries();
            x.undo();
            is("loaded", typed(x), "");
            is("list", list(x, 0), "0:");
            x.addUser();
            x.writeEntries(0);
            x.undo();
            is("written since", typed(x), "0:");
            x.addUser();
            x.clear();
            x.undo();
            is("cleared since", typed(x), "");
        });
        of("Terms", STATE, "a snapshot has no pad", () -> {
            PermissionDesk x = new PermissionDesk();
            append(x, "0:+a=r");
            x.save(0);
            x.clear();
            append(x, "1:");
            x.restore(0);
            is("the pad stays", typed(x), "1:");
        });
        of("Terms", STATE, "undo leaves the slots", () -> {
            PermissionDesk x = new PermissionDesk();
            x.addUser();
            x.save(0);
            x.undo();
            is("saved since", x.restore(0), 1);
            is("users", x.users(), 2);
            x.addUser();
            x.save(0);
            x.save(1);
            x.undo();
            x.undo();
            is("users before", x.users(), 1);
            x.restore(0);
            is("the latest snapshot", x.users(), 3);
            x.undo();
            x.restore(1);
            is("the other slot", x.users(), 3);
        });
        of("Terms", STATE, "a snapshot has no slots", () -> {
            PermissionDesk x = new PermissionDesk();
            x.save(0);
            x.addUser();
            x.save(1);
            x.restore(0);
            x.restore(1);
            is("saved since", x.users(), 2);
        });
        of("Terms", STATE, "a snapshot has no history", () -> {
            PermissionDesk x = new PermissionDesk();
            x.addUser();
            x.addUser();
            x.save(0);
            x.addGroup();
            x.addGroup();
            x.restore(0);
            is("five states, one of them before restoring", x.undo(), 4);
            is("groups", x.groups(), 2);
            is("the next one", x.undo(), 3);
            is("groups", x.groups(), 1);
            x.restore(0);
            for (int n = 0; n < 4; n++) {
                x.undo();
            }
            is("the first state", x.users(), 1);
            noState(() -> x.undo());
        });
    }

    private static void history() {
        of("Terms", "A history of at most 5 states is kept", () -> {
            for (int changes = 0; changes <= 16; changes++) {
                PermissionDesk x = new PermissionDesk();
                for (int n = 0; n < changes; n++) {
                    x.ask(0, 0, 0);
                }
                for (int n = 1; n <= Math.min(5, changes); n++) {
                    is("states", x.undo(), Math.min(5, changes) - n);
                    is("requests", x.requests(), changes - n);
                }
                noState(() -> x.undo());
            }
        });
        of("Terms", "and if there are 6 states then, the oldest one is dropped.", () -> {
            PermissionDesk x = new PermissionDesk();
            for (int mask = 1; mask <= 6; mask++) {
                x.setMask(0, mask);
            }
            for (int mask = 5; mask >= 1; mask--) {
                x.undo();
                is("mask", x.maskOf(0), mask);
            }
            noState(() -> x.undo());
        });
        of("Terms", "and if there are 6 states then, the oldest one is dropped.", "by restore, too", () -> {
            PermissionDesk x = desk(6, 0);
            x.save(0);
            x.restore(0);
            for (int users = 6; users > 2; users--) {
                x.undo();
                is("users", x.users(), users);
            }
            is("states", x.undo(), 0);
            noState(() -> x.undo());
        });
        of("Terms", "and if there are 6 states then, the oldest one is dropped.", "after undo and changes", () -> {
            PermissionDesk x = new PermissionDesk();
            int requests = 0;
            int states = 0;
            for (int n = 0; n < 60; n++) {
                if (n % 7 < 4) {
                    x.ask(0, 0, 0);
                    requests++;
                    states = Math.min(5, states + 1);
                } else {
                    is("states", Check.outcome(() -> x.undo()),
                            states == 0 ? (Object) "java.lang.IllegalStateException" : (Object) (states - 1));
                    requests -= states == 0 ? 0 : 1;
                    states = Math.max(0, states - 1);
                }
                is("requests", x.requests(), requests);
            }
        });
    }

    private static void whatIsThrown() {
        String index = "IndexOutOfBoundsException is thrown if there is no such user, group, object, entry of the "
                + "object, or request in the log;";
        PermissionDesk x = Stage.SOME.desk();
        of("Terms", index, "user", () -> noIndex(() -> x.rightsOf(3, 0)));
        of("Terms", index, "group", () -> noIndex(() -> x.isNested(0, 4)));
        of("Terms", index, "object", () -> noIndex(() -> x.ownerOf(2)));
        of("Terms", index, "entry of the object", () -> {
            noIndex(() -> x.isAllowing(1, 3));
            noIndex(() -> x.isAllowing(0, 1));
            noIndex(() -> x.isAllowing(3, 0));
        });
        of("Terms", index, "request in the log", () -> noIndex(() -> x.wasAllowed(3)));
        of("Terms", "IllegalArgumentException if another argument is out of its range;", () -> {
            noArgument(() -> x.isAllowed(0, 0, 4));
            noArgument(() -> x.setMask(0, 16));
            noArgument(() -> x.addForAll(0, 0, true, true));
            noArgument(() -> x.codeAt(80));
            noArgument(() -> x.save(2));
            noArgument(() -> x.append(127));
        });
        of("Terms", "IllegalStateException means what the method says.", () -> {
            noState(() -> x.join(1, 0));
            noState(() -> x.remove(0));
            noState(() -> x.restore(1));
            PermissionDesk y = Stage.FULL.desk();
            noState(() -> y.addUser());
            noState(() -> y.addGroup());
            noState(() -> y.make(0, 0));
            noState(() -> y.addForAll(19, 1, true, true));
        });
    }

    /** Arguments that are wrong in all ways, two of them at least. */
    private static void whichIsFirst() {
        for (Method method : Face.METHODS) {
            String roles = Face.roles(method.getName()).replace("b", "").replace("n", "");
            if (roles.length() > 1) {
                of("Terms", SEVERAL, method.getName(), () -> {
                    for (int wrong = 1; wrong < 1 << roles.length(); wrong++) {
                        if (Integer.bitCount(wrong) > 1) {
                            firstOf(method, wrong, Stage.SOME);
                            firstOf(method, wrong, Stage.FULL);
                        }
                    }
                });
            }
        }
    }

    private static void firstOf(Method method, int wrong, Stage stage) {
        String roles = Face.roles(method.getName());
        Object[] values = ArgumentSentences.highest(roles, stage);
        boolean isIndex = false;
        for (int variant = 0; variant < 3; variant++) {
            for (int i = 0; i < roles.length(); i++) {
                if ((wrong >> i & 1) == 1) {
                    List<Integer> numbers = ArgumentSentences.wrong(roles.charAt(i), stage);
                    values[i] = numbers.get((variant + i) % numbers.size());
                    isIndex |= "ugoea".indexOf(roles.charAt(i)) >= 0;
                }
            }
            String due = isIndex ? "IndexOutOfBoundsException" : "IllegalArgumentException";
            is(method.getName() + Arrays.toString(values), Face.outcome(method, stage.desk(), values),
                    "java.lang." + due);
        }
    }

    private static void whichIsFirstOfAll() {
        of("Terms", SEVERAL, "users and groups, and the state", () -> {
            PermissionDesk x = Stage.SOME.desk();
            noIndex(() -> x.leave(3, 0));
            noIndex(() -> x.leave(1, 4));
            noIndex(() -> x.nest(4, 4));
            noIndex(() -> x.nest(NONE, NONE));
            noIndex(() -> x.unnest(4, 4));
            noIndex(() -> x.unnest(0, 4));
            noIndex(() -> x.unnest(4, 0));
        });
        of("Terms", SEVERAL, "objects, and the state", () -> {
            PermissionDesk x = Stage.FULL.desk();
            noIndex(() -> x.make(20, 0));
            noIndex(() -> x.make(0, 12));
            noIndex(() -> x.make(NONE, NONE));
            PermissionDesk y = Stage.SOME.desk();
            noIndex(() -> y.move(0, 2));
            noIndex(() -> y.move(2, 2));
            noIndex(() -> y.move(20, 20));
        });
        of("Terms", SEVERAL, "a full list, and arguments", () -> {
            PermissionDesk x = Stage.FULL.desk();
            noIndex(() -> x.addForUser(19, 12, 1, true, true));
            noIndex(() -> x.addForUser(19, 12, 0, true, true));
            noIndex(() -> x.addForGroup(19, 8, 1, true, true));
            noIndex(() -> x.addForGroup(19, 8, 16, true, true));
            for (int rights : new int[] {0, 16, NONE}) {
                noArgument(() -> x.addForUser(19, 0, rights, true, true));
                noArgument(() -> x.addForGroup(19, 0, rights, true, true));
                noArgument(() -> x.addForOwner(19, rights, true, true));
                noArgument(() -> x.addForAll(19, rights, true, true));
                noArgument(() -> x.share(0, 19, 0, rights));
            }
            noIndex(() -> x.share(12, 19, 0, 1));
            noIndex(() -> x.share(0, 19, 12, 1));
            noIndex(() -> x.share(0, 19, 12, 0));
        });
        of("Terms", SEVERAL, "a giver who lacks the right, and arguments", () -> {
            PermissionDesk x = Stage.SOME.desk();
            noIndex(() -> x.share(2, 0, 3, 1));
            noIndex(() -> x.share(2, 0, 3, 0));
            noIndex(() -> x.share(2, 2, 0, 1));
            noArgument(() -> x.share(2, 0, 0, 0));
            noArgument(() -> x.share(2, 0, 0, 16));
        });
        of("Terms", SEVERAL, "a full pad, and a wrong code", () -> {
            PermissionDesk x = Stage.PADDED.desk();
            noArgument(() -> x.append(32));
            noArgument(() -> x.append(127));
        });
        of("Terms", SEVERAL, "empty slots, and a wrong one", () -> {
            PermissionDesk x = new PermissionDesk();
            noArgument(() -> x.restore(2));
            noArgument(() -> x.restore(NONE));
        });
    }

    /** The call is refused, and all is as on a desk that was not asked. */
    private static void refused(Stage stage, String exception, Act act) {
        PermissionDesk x = stage.desk();
        is("exception", Check.outcome(() -> act.on(x)), "java.lang." + exception);
        is("everything", everything(x), everything(stage.desk()));
    }

    private static void refusedForArguments() {
        for (Method method : Face.METHODS) {
            String roles = Face.roles(method.getName());
            for (int i = 0; i < roles.length(); i++) {
                int place = i;
                boolean isIndex = "ugoea".indexOf(roles.charAt(i)) >= 0;
                if (isIndex || "rsmcpl".indexOf(roles.charAt(i)) >= 0) {
                    String exception = isIndex ? "IndexOutOfBoundsException" : "IllegalArgumentException";
                    of("Terms", NOTHING, method.getName() + ", argument " + (i + 1), () -> {
                        for (Stage stage : new Stage[] {Stage.SOME, Stage.YOUNG, Stage.FULL}) {
                            Object[] values = ArgumentSentences.highest(roles, stage);
                            values[place] = ArgumentSentences.wrong(roles.charAt(place), stage).get(0);
                            refused(stage, exception, x -> thrown(method, x, values));
                        }
                    });
                }
            }
        }
    }

    /** What the method throws is thrown again. */
    private static Object thrown(Method method, PermissionDesk x, Object[] values) {
        Object outcome = Face.outcome(method, x, values);
        switch (outcome.toString()) {
            case "java.lang.IndexOutOfBoundsException": throw new IndexOutOfBoundsException();
            case "java.lang.IllegalArgumentException": throw new IllegalArgumentException();
            default: return outcome;
        }
    }

    private static void refusedForTheState() {
        for (Map.Entry<String, Act> each : refusedOnSome().entrySet()) {
            of("Terms", NOTHING, each.getKey(), () -> {
                refused(Stage.SOME, "IllegalStateException", each.getValue());
            });
        }
        for (Map.Entry<String, Act> each : refusedOnYoung().entrySet()) {
            of("Terms", NOTHING, each.getKey(), () -> {
                refused(Stage.YOUNG, "IllegalStateException", each.getValue());
            });
        }
        for (Map.Entry<String, Act> each : refusedOnFull().entrySet()) {
            of("Terms", NOTHING, each.getKey(), () -> {
                refused(Stage.FULL, "IllegalStateException", each.getValue());
            });
        }
        of("Terms", NOTHING, "append to a full pad", () -> {
            refused(Stage.PADDED, "IllegalStateException", x -> x.append('!'));
            refused(Stage.PADDED, "IllegalArgumentException", x -> x.append(32));
        });
        of("Terms", NOTHING, "undo without a state", () -> {
            refused(Stage.QUIET, "IllegalStateException", x -> x.undo());
        });
        of("Terms", NOTHING, "on a desk as it is made", () -> {
            refused(Stage.BARE, "IllegalStateException", x -> x.undo());
            refused(Stage.BARE, "IllegalStateException", x -> x.restore(0));
            refused(Stage.BARE, "IllegalStateException", x -> x.loadEntries());
            refused(Stage.BARE, "IllegalStateException", x -> x.remove(0));
            refused(Stage.BARE, "IllegalStateException", x -> x.move(0, 0));
        });
    }

    private static Map<String, Act> refusedOnSome() {
        Map<String, Act> acts = new LinkedHashMap<>();
        acts.put("join of a member", x -> x.join(1, 0));
        acts.put("leave of none", x -> x.leave(2, 0));
        acts.put("leave of one who belongs", x -> x.leave(1, 1));
        acts.put("nest in itself", x -> x.nest(0, 0));
        acts.put("nest again", x -> x.nest(0, 1));
        acts.put("nest in a circle", x -> x.nest(1, 0));
        acts.put("unnest what is not nested", x -> x.unnest(1, 0));
        acts.put("remove the object 0", x -> x.remove(0));
        acts.put("remove with an object below", x -> x.remove(1));
        acts.put("move the object 0", x -> x.move(0, 1));
        acts.put("move below itself", x -> x.move(1, 3));
        acts.put("move to itself", x -> x.move(1, 1));
        acts.put("share without the right to manage", x -> x.share(2, 1, 1, 1));
        acts.put("share without one of the rights", x -> x.share(1, 1, 2, 15));
        acts.put("load a list with no such user", x -> x.loadEntries());
        acts.put("restore from an empty slot", x -> x.restore(1));
        return acts;
    }

    private static Map<String, Act> refusedOnYoung() {
        Map<String, Act> acts = new LinkedHashMap<>();
        acts.put("join of a member, young", x -> x.join(1, 0));
        acts.put("leave of none, young", x -> x.leave(0, 0));
        acts.put("nest in a circle, young", x -> x.nest(1, 0));
        acts.put("unnest what is not nested, young", x -> x.unnest(1, 0));
        acts.put("remove with an object below, young", x -> x.remove(1));
        acts.put("move below itself, young", x -> x.move(1, 3));
        acts.put("share without one of the rights, young", x -> x.share(1, 1, 0, 15));
        acts.put("load a list that is not complete, young", x -> x.loadEntries());
        return acts;
    }

    private static Map<String, Act> refusedOnFull() {
        Map<String, Act> acts = new LinkedHashMap<>();
        acts.put("addUser to 12", x -> x.addUser());
        acts.put("addGroup to 8", x -> x.addGroup());
        acts.put("make to 20", x -> x.make(0, 0));
        acts.put("addForUser to 6", x -> x.addForUser(19, 0, 1, true, true));
        acts.put("addForGroup to 6", x -> x.addForGroup(19, 0, 1, true, true));
        acts.put("addForOwner to 6", x -> x.addForOwner(19, 1, true, true));
        acts.put("addForAll to 6", x -> x.addForAll(19, 1, true, true));
        acts.put("share to 6", x -> x.share(0, 19, 0, 1));
        acts.put("load a list with a fault", x -> x.loadEntries());
        return acts;
    }
}
