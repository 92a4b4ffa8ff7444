import java.io.IOException;

/** Each sentence of the document that names a boundary case, promise by promise. */
public final class EdgeTest {
    public static void main(String[] args) throws IOException {
        Edge edge = new Edge();
        new PageEdges(edge).all();
        new PortEdges(edge).all();
        new HeightEdges(edge).all();
        new TideEdges(edge).all();
        new StreamEdges(edge).all();
        new SeenEdges(edge).all();
        new WholeEdges(edge).all();
        edge.end();
    }
}
