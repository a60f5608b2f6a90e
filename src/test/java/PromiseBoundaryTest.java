/** Each sentence of the promises that names a boundary case, with a test of its own. No refusal of the document is left out. */
final class PromiseBoundaryTest {

    public static void main(String[] args) {
        Check check = new Check();
        new BoundariesOfMarsh(check).run();
        new BoundariesOfTravellers(check).run();
        new BoundariesOfChanges(check).run();
        Document.compare(check, true);
        check.end();
    }
}
