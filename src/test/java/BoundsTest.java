import java.io.IOException;

/**
 * Each sentence of the document that names a boundary case, by its own words: what is too small, too
 * great, empty, full, wrapped or refused.
 */
public final class BoundsTest {
    private BoundsTest() {
    }

    public static void main(String[] args) throws IOException {
        Said.open();
        TextBounds.run();
        StepBounds.run();
        AskBounds.run();
        CallBounds.run();
        Said.allNamed();
        Check.end();
    }
}
