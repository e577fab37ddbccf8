/** Every sentence of the document that names a boundary, on both sides of it. */
public final class BoundsTest {
    public static void main(String[] args) {
        BoundsOfFace.all();
        BoundsOfTexts.all();
        BoundsOfRequests.all();
        BoundsOfBooks.all();
        BoundsOfPlans.all();
        BoundsOfShifts.all();
        Sentences.finish();
        Check.finish();
    }
}
