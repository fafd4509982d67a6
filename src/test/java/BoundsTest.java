import java.io.IOException;

/** Each sentence of the document that names a boundary case, by a test of its own. */
public final class BoundsTest {
    public static void main(String[] args) throws IOException {
        Sentences.open();
        TextBounds.test();
        HouseBounds.test();
        NightBounds.test();
        DoneBounds.test();
        TriedBounds.test();
        SeenBounds.test();
        ImageBounds.test();
        Refusals.test();
        Sentences.everyPromiseIsTested();
        Due.end("BoundsTest");
    }
}
