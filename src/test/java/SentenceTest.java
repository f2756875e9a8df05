import java.io.IOException;

/** For each sentence of the document, its tests, and that no sentence of the document is without one. */
public final class SentenceTest {
    private SentenceTest() {
    }

    public static void main(String[] arguments) throws IOException {
        WheelSentences.all();
        SettingSentences.all();
        TextSentences.all();
        ChanceSentences.all();
        AverageSentences.all();
        CountSentences.all();
        Sentence.dueAllOfTheDocument();
        Check.end();
    }
}
