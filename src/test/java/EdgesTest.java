import java.io.IOException;

/** Each sentence of the document that names a boundary case, with a test of its own. */
public final class EdgesTest {
    private EdgesTest() { }

    public static void main(String[] args) throws IOException {
        Edges edges = new Edges();
        new SayingEdges(edges).tell();
        new WriterEdges(edges).tell();
        new PaperEdges(edges).tell();
        new YearsAfterEdges(edges).tell();
        new ActEdges(edges).tell();
        new ShelfEdges(edges).tell();
        new RefusedCalls(edges).tell();
        edges.end();
    }
}
