import java.io.IOException;

/** Every sentence of the document has a test of its own, from 'Terms' to promise 26. */
public final class EdgesTest {
    public static void main(String[] args) throws IOException {
        Sentences sentences = new Sentences();
        TableEdges.all(sentences);
        AnswerEdges.all(sentences);
        LoopEdges.all(sentences);
        TextEdges.all(sentences);
        ChangeEdges.all(sentences);
        sentences.end("Terms", "Promise 26: restore");
    }
}
