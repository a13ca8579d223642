import java.io.IOException;

/** Each sentence of the document that names a boundary by a test of its own. Run from the project's root. */
public final class SentenceTests {
    private SentenceTests() {
    }

    public static void main(String[] args) throws IOException {
        Says.open("../shared/DOC.md");
        ThingSentences.all();
        TextSentences.all();
        MarketSentences.all();
        TrialSentences.all();
        HarmSentences.all();
        GiftSentences.all();
        CallSentences.all();
        AnswerSentences.all();
        Says.end();
    }
}
