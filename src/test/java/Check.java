import java.util.Objects;

/** What the tests share: questions with the answer that is due, and a count of the wrong ones. */
final class Check {

    interface Call {
        Object run();
    }

    private static int asked = 0;
    private static int wrong = 0;
    private static String part = "";

    private Check() {
    }

    static void part(String name) {
        part = name;
    }

    static int asked() {
        return asked;
    }

    static void is(String what, Object got, Object due) {
        asked++;
        if (!Objects.equals(got, due)) {
            fail(what + " answered " + got + ", due is " + due);
        }
    }

    static void is(Object got, Object due) {
        is("call " + (asked + 1), got, due);
    }

    static void fail(String what) {
        wrong++;
        if (wrong <= 50) {
            System.out.println(part + ": " + what + at());
        }
    }

    /** The call has to throw exactly this class. */
    static void refuses(Class<? extends RuntimeException> due, Call call) {
        is("exception", outcome(call), due.getName());
    }

    static void noIndex(Call call) {
        refuses(IndexOutOfBoundsException.class, call);
    }

    static void noArgument(Call call) {
        refuses(IllegalArgumentException.class, call);
    }

    static void noState(Call call) {
        refuses(IllegalStateException.class, call);
    }

    /** The answer, or the name of the exception's class. */
    static Object outcome(Call call) {
        try {
            return call.run();
        } catch (RuntimeException e) {
            return e.getClass().getName();
        }
    }

    private static String at() {
        for (StackTraceElement e : new Throwable().getStackTrace()) {
            if (!e.getClassName().equals("Check") && !e.getClassName().equals("Sentences")) {
                return " (" + e.getFileName() + ":" + e.getLineNumber() + ")";
            }
        }
        return "";
    }

    static void end() {
        System.out.println(asked + " answers looked at, " + wrong + " wrong");
        if (wrong != 0) {
            System.exit(1);
        }
    }
}
