import java.io.IOException;

/** Promises 1 to 39, sentence by sentence: what is too small, too large, empty, full, at an end, or refused. */
public final class EdgesTest {
    public static void main(String[] args) throws IOException {
        Edges edges = new Edges();
        RowEdges.tell(edges);
        TextEdges.tell(edges);
        ActEdges.tell(edges);
        HourEdges.tell(edges);
        ForetoldEdges.tell(edges);
        BellEdges.tell(edges);
        AskedEdges.tell(edges);
        edges.end();
    }
}
