/**
 * Each sentence of the document that names a boundary case, in a test of its own that quotes it.
 * With the argument "unquoted" it tells what of the document no test quotes.
 */
public final class BoundaryTest {
    public static void main(String[] args) {
        Check check = new Check("BoundaryTest");
        Document document = new Document();
        Edges[] parts = {new TextEdges(check, document), new TermEdges(check, document), new PlanEdges(check, document),
            new SeenEdges(check, document), new SheetEdges(check, document)};
        for (Edges part : parts) {
            part.run();
        }
        check.promise("the document's chapters");
        for (String chapter : document.chapters()) {
            check.holds(chapter + " is quoted", !chapter.startsWith("Promise") || document.isQuoted(chapter));
            if (args.length > 0) {
                document.unquoted(chapter).forEach(piece -> System.out.println(chapter + ": " + piece));
            }
        }
        check.end();
    }
}
