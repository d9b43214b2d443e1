import java.io.IOException;

/** Each sentence of the document that names a boundary case, with one test of its own. */
public final class BoundaryTest {
    public static void main(String[] args) throws IOException {
        Due due = new Due("BoundaryTest");
        Sentences told = new Sentences("BoundaryTest", due);
        new FaceBoundaries(told, due).test();
        new RefusalBoundaries(told, due).test();
        new TermBoundaries(told, due).test();
        new ShelfBoundaries(told, due).test();
        new MatchBoundaries(told, due).test();
        new JobBoundaries(told, due).test();
        new SaleBoundaries(told, due).test();
        new ToolBoundaries(told, due).test();
        told.end();
    }
}
