import java.io.IOException;

/** Every sentence of the document has a test of its own, from its first line to promise 26; FaceTest has the face. */
public final class EdgesTest {
    public static void main(String[] args) throws IOException {
        Sentences sentences = new Sentences();
        OpeningEdges.all(sentences);
        TableEdges.all(sentences);
        AnswerEdges.all(sentences);
        LoopEdges.all(sentences);
        TextEdges.all(sentences);
        ChangeEdges.all(sentences);
        sentences.areAllNamed("What it is", "What it is");
        sentences.areAllNamed("Terms", "Promise 26: restore");
        sentences.end();
    }
}
