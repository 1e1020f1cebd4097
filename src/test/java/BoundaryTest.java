/** Boundary cases of all promises, each named by the document's sentence; no sentence may be left out. */
final class BoundaryTest {
    public static void main(String[] args) {
        SetupBounds.run();
        QueryBounds.run();
        ChangeBounds.run();
        Sentences.checkAllNamed();
        Check.finish("BoundaryTest");
    }
}
