import java.io.IOException;

/** The document, sentence by sentence, at the bounds that each names; each of its words must be said by a test. */
public final class SentencesTest {
    private SentencesTest() {
    }

    public static void main(String[] args) throws IOException {
        Doc.open();
        TextSentences.all();
        GameSentences.all();
        TenthSentences.all();
        OddsSentences.all();
        BuildSentences.all();
        PrintSentences.all();
        CallSentences.all();
        Doc.allIsSaid();
        Check.done();
    }
}
