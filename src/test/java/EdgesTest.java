/** The document's edges, promise by promise: each sentence that names one has a test of its own. */
public final class EdgesTest {
    public static void main(String[] args) {
        Checks checks = new Checks("EdgesTest");
        Edges edges = new Edges(checks);
        EdgesOfRows.all(edges);
        EdgesOfTexts.all(edges);
        EdgesOfActs.all(edges);
        EdgesOfHours.all(edges);
        EdgesOfForetold.all(edges);
        EdgesOfSearches.all(edges);
        EdgesOfAsks.all(edges);
        edges.haveAll(39);
        checks.end();
    }
}
