import java.io.IOException;

/** Every sentence of the document, in its order, with what holds the program to it. */
public final class SentencesTest {
    public static void main(String[] args) throws IOException {
        Sentences sentences = new Sentences();
        TextSentences.check(sentences);
        SignSentences.check(sentences);
        LineSentences.check(sentences);
        BoxSentences.check(sentences);
        CountSentences.check(sentences);
        OperationSentences.check(sentences);
        HistorySentences.check(sentences);
        QuerySentences.check(sentences);
        sentences.end();
    }
}
