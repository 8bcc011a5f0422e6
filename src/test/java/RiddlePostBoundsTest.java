import java.io.IOException;
import java.nio.file.Path;

/** A test for each sentence of the document that names a boundary; the sentence stands beside its test. */
public final class RiddlePostBoundsTest {
    private RiddlePostBoundsTest() {
    }

    public static void main(String[] args) throws IOException {
        Check check = new Check();
        Sentences sentences = new Sentences(check);
        BoundsOfTerms.all(sentences);
        BoundsOfChanges.all(sentences);
        BoundsOfViews.all(sentences);
        BoundsOfText.all(sentences);
        sentences.compareWith(Path.of("..", "shared", "DOC.md"));
        check.end("RiddlePostBoundsTest");
    }
}
