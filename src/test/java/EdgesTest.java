import java.io.IOException;

/** Every sentence of the document's terms and promises: its boundary, and one step to either side of it. */
final class EdgesTest {
    public static void main(String[] args) throws IOException {
        Sentences doc = new Sentences();
        CallEdges.run(doc);
        MessageEdges.run(doc);
        FrameEdges.run(doc);
        SenderEdges.run(doc);
        ReceiverEdges.run(doc);
        AnswerEdges.run(doc);
        TimeEdges.run(doc);
        FullEdges.run(doc);
        doc.finish();
    }
}
