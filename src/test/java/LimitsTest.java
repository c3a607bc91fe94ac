import java.io.IOException;

/** Each sentence of the document that names a boundary case, with a test of its own. */
public final class LimitsTest {
    public static void main(String[] args) throws IOException {
        Sentences sentences = new Sentences();
        new RowLimits(sentences).run();
        new MouldLimits(sentences).run();
        new SheetLimits(sentences).run();
        new PlacementLimits(sentences).run();
        new AssignmentLimits(sentences).run();
        new DateLimits(sentences).run();
        sentences.end();
    }
}
