/** Promises 27 to 29: rootBy, exact, farthest. */
public final class RootsTest {
    public static void main(String[] args) {
        QueueKeeper x = new QueueKeeper();
        Check.due("rootBy(0)", x.rootBy(0), QueueKeeper.NONE);
        Check.due("rootBy(1000)", x.rootBy(1000), QueueKeeper.NONE);
        Check.due("rootBy(-5)", x.rootBy(-5), QueueKeeper.NONE);
        Check.due("rootBy(1)", x.rootBy(1), 65535);
        Check.due("rootBy(2)", x.rootBy(2), 32769);
        Check.due("exact(0)", x.exact(0), QueueKeeper.NONE);
        Check.due("exact(1000)", x.exact(1000), QueueKeeper.NONE);
        Check.due("exact(1)", x.exact(1), 65535);
        Check.due("exact(4)", x.exact(4), 32768);
        Check.due("exact(9)", x.exact(9), 21845);
        Check.due("exact(16)", x.exact(16), 16384);
        Check.due("exact(999)", x.exact(999), 2073);

        int root = 65535;
        int farthest = 1;
        int howFar = 0;
        for (int n = 1; n <= 999; n++) {
            if (n > 1) {
                long q = (long) root * root / 65536;
                long next = Math.floorDiv(root * (196608L - n * q), 131072L);
                root = (int) Math.max(1, Math.min(65535, next));
            }
            int exact = (int) Math.min(65535, Math.floor(65536.0 / Math.sqrt(n)));
            Check.due("rootBy(" + n + ")", x.rootBy(n), root);
            Check.due("exact(" + n + ")", x.exact(n), exact);
            if (Math.abs(root - exact) > howFar) {
                howFar = Math.abs(root - exact);
                farthest = n;
            }
            Check.due("farthest(" + n + ", 0)", x.farthest(n, 0), farthest);
            Check.due("farthest(" + n + ", 1)", x.farthest(n, 1), howFar);
        }
        Check.due("farthest(0, 0)", x.farthest(0, 0), QueueKeeper.NONE);
        Check.due("farthest(1000, 0)", x.farthest(1000, 0), QueueKeeper.NONE);
        Check.due("farthest(5, 2)", x.farthest(5, 2), QueueKeeper.NONE);
        Check.due("farthest(5, -1)", x.farthest(5, -1), QueueKeeper.NONE);
        Check.finish("RootsTest");
    }
}
