/** Every sentence of the document that names an edge, by its words; no word of it may stay unquoted. */
public final class EdgesTest {
    public static void main(String[] args) {
        TextEdges.run();
        FactEdges.run();
        OwedEdges.run();
        PayoutEdges.run();
        Document.allQuoted();
        Check.end("EdgesTest");
    }
}
