import java.io.IOException;

/** Each sentence of the document, from the first one to the last promise, with its boundaries. */
public final class BoundariesTest {
    private static final Checks CHECKS = new Checks("BoundariesTest");

    public static void main(String[] args) throws IOException {
        Sentences sentences = new Sentences(CHECKS);
        new BoundariesOfTerms(sentences).all();
        new BoundariesOfChanges(sentences).all();
        new BoundariesOfLooks(sentences).all();
        new BoundariesOfTexts(sentences).all();
        new BoundariesOfHistory(sentences).all();
        sentences.allAreQuoted();
        CHECKS.end();
    }
}
