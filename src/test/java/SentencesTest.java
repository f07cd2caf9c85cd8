/** Every sentence of the document up to its last promise, each by a test of its own at the edges that it names. */
public final class SentencesTest {
    public static void main(String[] args) {
        Doc.open();
        WholeSentences.run();
        LexemeSentences.run();
        GrammarSentences.run();
        FaultSentences.run();
        TableSentences.run();
        PageSentences.run();
        FeedSentences.run();
        ReadSentences.run();
        LookSentences.run();
        OutSentences.run();
        Doc.close();
        Check.finish();
    }
}
