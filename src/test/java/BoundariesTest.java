import java.io.IOException;

/** Each sentence of the document, from its first line to its last. */
public final class BoundariesTest {
    public static void main(String[] args) throws IOException {
        Sentences of = new Sentences();
        new WholeSentences(of).all();
        new LetterSentences(of).all();
        new WagonSentences(of).all();
        new HoldingSentences(of).all();
        new TimeSentences(of).all();
        new ToldSentences(of).all();
        of.end();
    }
}
