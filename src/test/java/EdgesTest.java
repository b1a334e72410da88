import java.io.IOException;

/** Each sentence of the document that names a boundary case, by a test of its own. */
public final class EdgesTest {
    public static void main(String[] args) throws IOException {
        Checks checks = new Checks();
        Sentences sentences = new Sentences();
        Edges[] all = {
            new EdgesOfTermsVoices(checks, sentences),
            new EdgesOfTermsPlay(checks, sentences),
            new EdgesOfTermsGifts(checks, sentences),
            new EdgesOfVoices(checks, sentences),
            new EdgesOfPlay(checks, sentences),
            new EdgesOfGifts(checks, sentences),
            new EdgesOfTelling(checks, sentences)};
        for (Edges edges : all) {
            edges.run();
        }
        checks.at("");
        checks.due("promises", sentences.promises(), 29);
        String left = sentences.notQuoted();
        checks.holds("all words have a test; these have none:\n" + left, left.isEmpty());
        checks.end();
    }
}
