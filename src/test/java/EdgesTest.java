/** Every sentence of the document at its edges: too small, too large, empty, full, wrapped around, refused. */
public final class EdgesTest {
    public static void main(String[] args) {
        TermsEdges.run();
        WaterEdges.run();
        LogEdges.run();
        LoadsEdges.run();
        AfloatEdges.run();
        ToldEdges.run();
        Edge.everySentenceWasQuoted();
        Due.end();
    }
}
