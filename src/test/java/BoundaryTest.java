import java.io.IOException;

/** Each sentence of the document that names a boundary case, by its own words, with a test of its own. */
public final class BoundaryTest {
    private BoundaryTest() {
    }

    public static void main(String[] args) throws IOException {
        Document doc = new Document();
        BoundaryThings.tell(doc);
        BoundaryMoves.tell(doc);
        BoundaryHandling.tell(doc);
        BoundaryOrder.tell(doc);
        BoundaryCalls.tell(doc);
        BoundaryAnswers.tell(doc);
        doc.end();
    }
}
