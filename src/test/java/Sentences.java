/** What the tests of the document's sentences share: each names the section, and the words it tests. */
class Sentences extends Desks {

    static void of(String section, String words, Runnable test) {
        of(section, words, "", test);
    }

    /** The remark tells apart tests of the same words. */
    static void of(String section, String words, String remark, Runnable test) {
        Check.part(section + ", \"" + words + "\"" + (remark.isEmpty() ? "" : " (" + remark + ")"));
        Check.is("the document says so", Document.test(section, words), true);
        int before = Check.asked();
        try {
            test.run();
        } catch (RuntimeException | StackOverflowError e) {
            Check.fail("broke off with " + e);
        }
        Check.is("something was asked", Check.asked() > before, true);
    }

    static void is(String what, Object got, Object due) {
        Check.is(what, got, due);
    }

    static void noIndex(Check.Call call) {
        Check.noIndex(call);
    }

    static void noArgument(Check.Call call) {
        Check.noArgument(call);
    }

    static void noState(Check.Call call) {
        Check.noState(call);
    }
}
