/**
 * Each sentence of the document that names an edge - too small, too large, empty, full, going round,
 * refused - has its own checks, under its own words; at the end no sentence is left without.
 */
public final class EdgesTest {
    private EdgesTest() {
    }

    public static void main(String[] args) {
        NumberEdges.all();
        RegisterEdges.all();
        BasketEdges.all();
        BoardEdges.all();
        WholeEdges.all();
        Document.everySentenceIsQuoted();
        Checks.finish("EdgesTest");
    }
}
