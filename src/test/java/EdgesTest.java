/** All boundary cases; then that no sentence of Terms and of the promises is without a test that names it. */
public final class EdgesTest {
    public static void main(String[] args) {
        EdgesText.all();
        EdgesBuckets.all();
        EdgesKeeper.all();
        EdgesSenders.all();
        EdgesAnswers.all();
        EdgesRefusals.all();
        Check.under("no test names");
        for (String piece : Edge.unnamed()) {
            Check.due(piece, 1, 0);
        }
        Check.finish("EdgesTest");
    }
}
