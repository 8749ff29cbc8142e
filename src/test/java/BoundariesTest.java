import java.io.IOException;

/** Each sentence of the document, in its order, with a test of its own. */
public final class BoundariesTest {
    private BoundariesTest() {
    }

    public static void main(String[] args) throws IOException, IllegalAccessException {
        Sentences.open();
        FirstBounds.all();
        Sentences.asksNothing("## Terms");
        TapeBounds.all();
        FaultBounds.all();
        HandBounds.all();
        UseBounds.all();
        RunBounds.all();
        TriedBounds.all();
        FaceBounds.all();
        Sentences.end("BoundariesTest");
    }
}
