/** Sentences of the promises 20 and 59 to 63: requests, and what becomes of them. */
final class LogSentences extends Sentences {

    private static final String LOGGED =
            "A user asks for a right at an object; this is logged: the latest 8 requests are kept.";

    private LogSentences() {
    }

    static void run() {
        ask();
        latestRequests();
        askTells();
        requests();
        refusals();
        userOfRequest();
        objectOfRequest();
        wasAllowed();
        noSuchRequest();
    }

    /** The request n is of the user n mod 12 at the object n mod 20, to read. */
    private static PermissionDesk asked(int requests) {
        PermissionDesk x = chain(12, 0, 20);
        x.addForUser(0, 5, 1, true, true);
        for (int n = 0; n < requests; n++) {
            x.ask(n % 12, n % 20, 0);
        }
        return x;
    }

    private static boolean isDue(int n) {
        return n % 12 == 0 || n % 12 == 5;
    }

    /** The log has the latest of so many requests, and no others. */
    private static void latest(PermissionDesk x, int requests) {
        int kept = Math.min(requests, 8);
        for (int ago = 0; ago < kept; ago++) {
            int n = requests - 1 - ago;
            is("user of " + ago, x.userOfRequest(ago), n % 12);
            is("object of " + ago, x.objectOfRequest(ago), n % 20);
            is("allowed " + ago, x.wasAllowed(ago), isDue(n));
        }
        noIndex(() -> x.userOfRequest(kept));
        noIndex(() -> x.objectOfRequest(kept));
        noIndex(() -> x.wasAllowed(kept));
    }

    private static void ask() {
        of("Promise 20", LOGGED, "each number of requests up to 26", () -> {
            for (int requests = 0; requests <= 26; requests++) {
                latest(asked(requests), requests);
            }
        });
        of("Promise 20", LOGGED, "also what is asked again", () -> {
            PermissionDesk x = asked(1);
            x.ask(0, 0, 0);
            is("the log", log(x), " 2 0 0 0true 0 0true");
        });
        of("Promise 20", LOGGED, "but looking is no asking", () -> {
            PermissionDesk x = asked(1);
            x.isAllowed(1, 0, 0);
            x.isAllowedByHandingDown(1, 0, 0);
            x.rightsOf(1, 0);
            is("the log", log(x), " 1 0 0 0true");
        });
    }

    private static void latestRequests() {
        of("Promise 20", "the latest 8 requests are kept", "the ninth drives out the first one", () -> {
            PermissionDesk x = asked(8);
            is("the first one", x.userOfRequest(7), 0);
            x.ask(11, 19, 3);
            is("the second one", x.userOfRequest(7), 1);
            is("the ninth one", x.objectOfRequest(0), 19);
            noIndex(() -> x.userOfRequest(8));
        });
        of("Promise 20", "the latest 8 requests are kept", "undo brings back what was driven out", () -> {
            PermissionDesk x = asked(10);
            x.undo();
            latest(x, 9);
            x.undo();
            latest(x, 8);
            x.undo();
            latest(x, 7);
        });
        of("Promise 20", "the latest 8 requests are kept", "and so does a snapshot", () -> {
            PermissionDesk x = asked(8);
            x.save(0);
            for (int n = 0; n < 9; n++) {
                x.ask(11, 19, 3);
            }
            x.restore(0);
            latest(x, 8);
            is("restore is a change", x.undo(), 4);
            is("all of one user", x.userOfRequest(7), 11);
        });
    }

    private static void askTells() {
        of("Promise 20", "Returns true if it is allowed.", () -> {
            PermissionDesk x = desk(3, 0);
            x.make(0, 1);
            load(x, "1:+a=rw;-a=x");
            x.setMask(1, 13);
            is("an entry allows", x.ask(2, 1, 0), true);
            is("the mask stops", x.ask(2, 1, 1), false);
            is("an entry refuses", x.ask(2, 1, 2), false);
            is("no entry", x.ask(2, 1, 3), false);
            is("the owner", x.ask(1, 1, 3), true);
            is("the keeper", x.ask(0, 1, 2), true);
        });
        of("Promise 20", "Returns true if it is allowed.", "as isAllowed() tells", () -> {
            PermissionDesk x = Stage.SOME.desk();
            for (int user = 0; user < 3; user++) {
                for (int object : new int[] {0, 1, 3}) {
                    for (int right = 0; right < 4; right++) {
                        is("right " + right, x.ask(user, object, right), x.isAllowed(user, object, right));
                    }
                }
            }
        });
    }

    private static void requests() {
        of("Promise 59", "Returns how many requests there were so far.", () -> {
            PermissionDesk x = new PermissionDesk();
            is("none", x.requests(), 0);
            for (int n = 1; n <= 20; n++) {
                x.ask(0, 0, 0);
                is("those that are kept no more, too", x.requests(), n);
            }
            noIndex(() -> x.ask(1, 0, 0));
            noArgument(() -> x.ask(0, 0, 4));
            is("what was thrown back is none", x.requests(), 20);
        });
        of("Promise 59", "Returns how many.", () -> {
            PermissionDesk x = desk(2, 0);
            x.ask(0, 0, 0);
            x.ask(1, 0, 0);
            is("allowed or not", x.requests(), 2);
            x.undo();
            is("undone", x.requests(), 1);
        });
    }

    private static void refusals() {
        of("Promise 60", "Returns how many requests were refused so far.", () -> {
            PermissionDesk x = desk(2, 0);
            is("none", x.refusals(), 0);
            x.ask(0, 0, 0);
            is("allowed", x.refusals(), 0);
            for (int n = 1; n <= 20; n++) {
                x.ask(1, 0, 0);
                is("those that are kept no more, too", x.refusals(), n);
            }
            noIndex(() -> x.ask(2, 0, 0));
            is("what was thrown back is none", x.refusals(), 20);
        });
        of("Promise 60", "Returns how many.", () -> {
            PermissionDesk x = desk(2, 0);
            x.ask(1, 0, 0);
            x.addForAll(0, 1, true, true);
            x.ask(1, 0, 0);
            is("as it was then", x.refusals(), 1);
            x.undo();
            x.undo();
            x.undo();
            is("undone", x.refusals(), 0);
        });
    }

    private static void userOfRequest() {
        of("Promise 61", "Returns the user of a request in the log.", () -> {
            PermissionDesk x = asked(12);
            for (int ago = 0; ago < 8; ago++) {
                is("user " + ago, x.userOfRequest(ago), 11 - ago);
            }
        });
        of("Promise 61", "Returns the user.", () -> {
            PermissionDesk x = asked(0);
            x.ask(11, 3, 2);
            is("neither the object nor the right", x.userOfRequest(0), 11);
        });
        of("Promise 61", "0 for the latest one", () -> {
            PermissionDesk x = asked(2);
            is("the latest one", x.userOfRequest(0), 1);
            is("the one before", x.userOfRequest(1), 0);
        });
    }

    private static void objectOfRequest() {
        of("Promise 62", "Returns the object of a request in the log, whether it is there still or not.", () -> {
            PermissionDesk x = asked(20);
            for (int ago = 0; ago < 8; ago++) {
                is("object " + ago, x.objectOfRequest(ago), 19 - ago);
            }
            x.remove(19);
            is("removed", x.objectOfRequest(0), 19);
            is("there still", x.objectOfRequest(1), 18);
            x.make(0, 0);
            is("another one with its number", x.objectOfRequest(0), 19);
        });
        of("Promise 62", "Returns the object.", () -> {
            PermissionDesk x = asked(0);
            x.ask(3, 19, 2);
            is("neither the user nor the right", x.objectOfRequest(0), 19);
        });
        of("Promise 62", "0 for the latest one", () -> {
            PermissionDesk x = asked(2);
            is("the latest one", x.objectOfRequest(0), 1);
            is("the one before", x.objectOfRequest(1), 0);
        });
    }

    private static void wasAllowed() {
        of("Promise 63", "Tells whether a request in the log was allowed.", () -> {
            PermissionDesk x = desk(2, 0);
            x.ask(1, 0, 0);
            x.addForAll(0, 1, true, true);
            x.ask(1, 0, 0);
            x.setMask(0, 0);
            is("the latest one, as it was then", x.wasAllowed(0), true);
            is("the one before, as it was then", x.wasAllowed(1), false);
        });
        of("Promise 63", "Returns true if it was.", () -> {
            for (int pattern = 0; pattern < 256; pattern += 5) {
                PermissionDesk x = desk(2, 0);
                for (int n = 0; n < 11; n++) {
                    x.ask((pattern >> n % 8 & 1) == 1 ? 0 : 1, 0, 0);
                }
                for (int ago = 0; ago < 8; ago++) {
                    is("pattern " + pattern, x.wasAllowed(ago), (pattern >> (10 - ago) % 8 & 1) == 1);
                }
            }
        });
        of("Promise 63", "0 for the latest one", () -> {
            PermissionDesk x = asked(2);
            is("the latest one", x.wasAllowed(0), false);
            is("the one before", x.wasAllowed(1), true);
        });
    }

    private static void noSuchRequest() {
        for (int promise = 61; promise <= 63; promise++) {
            int asking = promise;
            of("Promise " + promise, "if the log has no such request", "none, some, 8, and more than 8", () -> {
                for (int requests : new int[] {0, 1, 7, 8, 9, 16, 17}) {
                    PermissionDesk x = asked(requests);
                    int kept = Math.min(requests, 8);
                    for (int ago : beyond(kept)) {
                        noIndex(() -> of(x, asking, ago));
                    }
                    is("the last one", kept == 0 || of(x, asking, kept - 1) instanceof Object, true);
                }
            });
        }
    }

    private static Object of(PermissionDesk x, int promise, int ago) {
        if (promise == 61) {
            return x.userOfRequest(ago);
        }
        return promise == 62 ? (Object) x.objectOfRequest(ago) : (Object) x.wasAllowed(ago);
    }
}
