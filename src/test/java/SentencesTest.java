/** Each sentence of the document's terms and promises, with a test of its own. */
public final class SentencesTest {
    public static void main(String[] args) {
        DrawerSentences.test();
        BenchSentences.test();
        RecordSentences.test();
        HistorySentences.test();
        Sentences.end();
        Check.end();
    }
}
