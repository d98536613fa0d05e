/** Each sentence of the document, at the edges that it names. */
public final class EdgesTest {
    public static void main(String[] args) {
        Sentences sentences = new Sentences();
        new WholeEdges(sentences).all();
        new FaceEdges(sentences).all();
        new TermsEdges(sentences).all();
        new FieldEdges(sentences).all();
        new PumpingEdges(sentences).all();
        new DrawdownEdges(sentences).all();
        new HeadroomEdges(sentences).all();
        new StreamEdges(sentences).all();
        new LicenceEdges(sentences).all();
        new TradeEdges(sentences).all();
        sentences.end();
    }
}
