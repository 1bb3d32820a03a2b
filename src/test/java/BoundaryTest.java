/** Each boundary case that a sentence of the document names, by a test of its own that quotes it. */
public final class BoundaryTest {
    private BoundaryTest() {
    }

    public static void main(String[] args) {
        Boundary b = new Boundary();
        new ToldBoundaries(b).run();
        new FaultBoundaries(b).run();
        new MoveBoundaries(b).run();
        new ColumnRowBoundaries(b).run();
        new RowActBoundaries(b).run();
        new SightActBoundaries(b).run();
        new AskedBoundaries(b).run();
        new SumBoundaries(b).run();
        new LogBoundaries(b).run();
        new InquestBoundaries(b).run();
        new WrittenBoundaries(b).run();
        new SizeBoundaries(b).run();
        b.finish("BoundaryTest");
    }
}
