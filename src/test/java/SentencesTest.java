/** Each sentence of the document has a test of its own, and holds. */
public final class SentencesTest {

    public static void main(String[] args) {
        TermsSentences.run();
        ArgumentSentences.run();
        GroupSentences.run();
        ObjectSentences.run();
        EntrySentences.run();
        RightSentences.run();
        TextSentences.run();
        LogSentences.run();
        HistorySentences.run();
        ChangeSentences.run();
        Check.part("sentences without a test");
        for (String sentence : Document.untested()) {
            Check.fail(sentence);
        }
        Check.end();
    }
}
