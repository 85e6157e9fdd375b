/** Each sentence of the document, with the edges that it names: inside, outside, empty, full, refused. */
public final class EdgesTest {
    public static void main(String[] args) {
        Edges edges = new Edges();
        new HouseEdges(edges).tell();
        new MetalEdges(edges).tell();
        new PayEdges(edges).tell();
        new ClaimEdges(edges).tell();
        new BillEdges(edges).tell();
        new VoyageEdges(edges).tell();
        new AskedEdges(edges).tell();
        new TermsEdges(edges).tell();
        edges.end();
    }
}
