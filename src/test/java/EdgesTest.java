/** Runs all Edges, and sees that no word of the Terms or of a promise is without a test. */
public final class EdgesTest {
    private EdgesTest() {
    }

    public static void main(String[] args) {
        Checks checks = new Checks();
        Document document = new Document();
        Edges[] all = {new TermEdges(checks, document), new HandEdges(checks, document), new RowEdges(checks, document),
            new LawEdges(checks, document), new RoutineEdges(checks, document), new MendEdges(checks, document),
            new HabitEdges(checks, document), new CountEdges(checks, document)};
        for (Edges edges : all) {
            edges.run();
        }
        checks.due("Terms: words without a test", document.unnamed(Document.TERMS), "");
        for (int promise = 1; promise <= Document.PROMISES; promise++) {
            checks.due("Promise " + promise + ": words without a test", document.unnamed(promise), "");
        }
        checks.end();
    }
}
