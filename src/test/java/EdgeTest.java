/** Promises 1 to 27: the boundary cases, sentence by sentence of the document. */
public final class EdgeTest {
    public static void main(String[] args) {
        Edge e = new Edge();
        LandEdges.all(e);
        GrammarEdges.all(e);
        TextEdges.all(e);
        ActEdges.all(e);
        PieceEdges.all(e);
        SlideEdges.all(e);
        StoryEdges.all(e);
        e.finish();
    }
}
