/** One test for each sentence of the document, run part by part. */
public final class EdgesTest {
    public static void main(String[] args) {
        CubeEdges.test();
        PressedEdges.test();
        OrderEdges.test();
        CascadeEdges.test();
        GridEdges.test();
        MeasureEdges.test();
        TapeEdges.test();
        ShelfEdges.test();
        ActEdges.test();
        ChangeEdges.test();
        LongEdges.test();
        Sentences.end();
        Due.end();
    }
}
