import java.io.IOException;

/** Each sentence of the document by itself, with the edges that it names; see Sentences. */
public final class EdgesTest {
    public static void main(String[] args) throws IOException {
        Sentences sentences = new Sentences();
        new EdgesOfWords(sentences).run();
        new EdgesOfRhymes(sentences).run();
        new EdgesOfLines(sentences).run();
        new EdgesOfForms(sentences).run();
        sentences.end();
    }
}
