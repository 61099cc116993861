/** Promises 5 to 7, 18 to 23, 25, 36, 39, 40: frames come, buckets take them, rounds serve them. */
public final class BucketsTest {
    private static final int NONE = QueueKeeper.NONE;

    public static void main(String[] args) {
        coming();
        twoHundred();
        passing();
        hashes();
        choosingBuckets();
        pushingOut();
        rounds();
        emptyNewBucketGoesBehindOld();
        rateMovesTime();
        bucketRefuses();
        questionsRefuse();
        Check.finish("BucketsTest");
    }

    private static void coming() {
        QueueKeeper x = Check.keeper("pass 3;");
        Check.due("come", x.come(5, 1500, 1), 0);
        Check.due("come", x.come(0, 1, 0), 1);
        Check.due("come", x.come(9999, 2, 0), 2);
        Check.dueRow("frame 0", Check.frameRow(x, 0), 5, 1500, 1, 3, 2, 0, 0, -2);
        Check.dueRow("frame 1", Check.frameRow(x, 1), 0, 1, 0, 3, 0, 0, 0, -2);
        Check.due("key -1", x.come(-1, 1, 0), NONE);
        Check.due("key 10000", x.come(10000, 1, 0), NONE);
        Check.due("bytes 0", x.come(1, 0, 0), NONE);
        Check.due("bytes 1501", x.come(1, 1501, 0), NONE);
        Check.due("may 2", x.come(1, 1, 2), NONE);
        Check.due("may -1", x.come(1, 1, -1), NONE);
        Check.due("came", x.count(1), 3);
        Check.due("stand", x.count(2), 3);
        Check.due("bytes", x.count(3), 1503);
        Check.due("nobody's", x.whose(0), -2);
    }

    private static void twoHundred() {
        QueueKeeper x = Check.keeper("limit 60;");
        for (int f = 0; f < 200; f++) {
            Check.due("come " + f, x.come(f, 10, 0), f);
        }
        Check.due("the 201st", x.come(1, 10, 0), -2);
        Check.due("wrong goes first", x.come(1, 0, 0), NONE);
        Check.due("stand", x.count(2), 60);
        Check.due("most at once", x.count(18), 61);
        Check.due("pushed out", x.count(7), 140);
        Check.due("bytes", x.count(3), 600);
        Check.due("frames", x.count(1), 200);

        QueueKeeper y = Check.keeper("limit 60;sender 1 10 20 1 0;run 200;come 2 10 0;");
        Check.due("a line beyond does nothing", y.count(1), 200);
        Check.due("its key", y.frame(199, 0), 1);
    }

    private static void passing() {
        QueueKeeper x = new QueueKeeper();
        Check.due("pass(0)", x.pass(0), NONE);
        Check.due("pass(-1)", x.pass(-1), NONE);
        Check.due("pass(1000)", x.pass(1000), NONE);
        Check.due("pass(1)", x.pass(1), 1);
        Check.due("pass(999)", x.pass(999), 1000);
        for (int i = 0; i < 999; i++) {
            x.pass(999);
        }
        Check.due("now", x.count(0), 999001);
        Check.due("pass(999) too far", x.pass(999), NONE);
        Check.due("pass(998)", x.pass(998), 999999);
        Check.due("pass(1) too far", x.pass(1), NONE);
        Check.due("now stays", x.count(0), 999999);
    }

    private static void hashes() {
        QueueKeeper x = new QueueKeeper();
        int[] bytes = {0, 158, 60, 218, 120, 23, 181, 83};
        for (int key = 0; key < bytes.length; key++) {
            Check.due("set(" + key + ")", x.set(key), bytes[key] % 2);
        }
        Check.due("set(9999)", x.set(9999), 0);
        Check.due("set(-1)", x.set(-1), NONE);
        Check.due("set(10000)", x.set(10000), NONE);
        for (int sets = 1; sets <= 4; sets++) {
            Check.text(x, "sets " + sets + ";");
            Check.due("set(9999) of " + sets, x.set(9999), 166 % sets);
            int[] loads = new int[sets];
            for (long key = 0; key < 10000; key++) {
                loads[(int) (key * 40503 % 65536 / 256 % sets)]++;
            }
            for (int set = 0; set < sets; set++) {
                Check.due("load(" + set + ") of " + sets, x.load(set), loads[set]);
            }
            Check.due("load beyond", x.load(sets), NONE);
            Check.due("load(-1)", x.load(-1), NONE);
        }
    }

    private static void choosingBuckets() {
        // Keys 1, 2, 3, 4 are of set 0 (buckets 0, 1), 5, 6, 7 of set 1 (2, 3).
        QueueKeeper x = new QueueKeeper();
        Check.due("bucketFor(5)", x.bucketFor(5), 2);
        x.come(1, 10, 0);
        Check.due("its own", x.bucketFor(1), 0);
        Check.due("the first free one", x.bucketFor(3), 1);
        x.come(3, 10, 0);
        Check.due("both taken: key by ways", x.bucketFor(2), 0);
        Check.due("both taken: key by ways", x.bucketFor(4), 0);
        Check.due("both taken, its own", x.bucketFor(3), 1);
        Check.due("other set is free", x.bucketFor(7), 2);
        Check.due("none strange yet", x.shared(), 0);
        x.come(2, 10, 0);
        x.come(2, 10, 0);
        x.come(4, 10, 0);
        Check.due("strange keys", x.shared(), 2);
        Check.due("the tag stays", x.bucket(0, 0), 1);
        int[] row = {x.inBucket(0, 0), x.inBucket(0, 1), x.inBucket(0, 2), x.inBucket(0, 3), x.inBucket(0, 4)};
        Check.dueRow("bucket 0 holds", row, 0, 2, 3, 4, -2);
        Check.due("frame(4, 4)", x.frame(4, 4), 0);
        while (x.go() >= 0) {
            Check.due("still the same strange ones", x.shared(), 2);
        }
        Check.due("a free one keeps its tag", x.bucket(0, 0), 1);
        Check.due("but a tag of a free one is nobody's", x.bucketFor(3), 0);
        x.come(4, 10, 0);
        Check.due("begun anew", x.bucket(0, 0), 4);
        Check.due("key 4 was strange once", x.shared(), 2);
        Check.due("bucketFor(-1)", x.bucketFor(-1), NONE);
        Check.due("bucketFor(10000)", x.bucketFor(10000), NONE);
    }

    private static void pushingOut() {
        // Key 1 in bucket 0, key 5 in bucket 2: the one of most bytes loses its first.
        QueueKeeper x = Check.keeper("limit 3;come 1 50 0;come 5 40 0;come 5 20 0;");
        Check.due("none yet", x.count(7), 0);
        x.come(1, 10, 0);
        Check.due("a draw: the first bucket", x.past(3, 0), 0);
        Check.dueRow("frame 0", Check.frameRow(x, 0), 1, 50, 0, 0, 0, 0, 3, 0);
        x.pass(4);
        x.come(1, 1, 0);
        Check.due("bucket 2 has the most", x.past(3, 1), 1);
        Check.due("when", x.frame(1, 7), 4);
        Check.due("at most stood", x.count(18), 4);
        Check.due("bytes of 2", x.bucket(2, 2), 20);
        Check.due("frames of 2", x.bucket(2, 1), 1);
        Check.due("settle", x.settle(3, 1), 3);
        Check.due("nothing at once", x.count(2), 3);
        x.come(7, 1500, 0);
        Check.due("one only, and it may be the one that came", x.past(3, 2), 5);
        Check.due("stand", x.count(2), 3);
        Check.due("an emptied bucket stays listed", x.bucket(3, 4), 1);
        Check.due("no frames in it", x.bucket(3, 1), 0);
    }

    private static void rounds() {
        // Quantum 100: key 1 has big frames, key 5 small ones.
        QueueKeeper x = Check.keeper("quantum 100;come 1 250 0;come 1 250 0;come 5 60 0;come 5 60 0;come 5 60 0;");
        Check.dueRow("lists", new int[] {x.order(0), x.order(1), x.order(2)}, 0, 2, -2);
        Check.due("deficit at first", x.bucket(0, 3), 100);
        Check.due("go", x.go(), 0);
        Check.due("deficit", x.bucket(0, 3), -150);
        Check.due("still new", x.bucket(0, 4), 1);
        Check.due("go", x.go(), 2);
        Check.due("became old with a quantum more", x.bucket(0, 3), -50);
        Check.due("old", x.bucket(0, 4), 2);
        Check.due("go", x.go(), 3);
        Check.due("deficit of 2", x.bucket(2, 3), -20);
        // 2 becomes old (80); 0 has -50, gets 50, behind 2; 2 sends.
        Check.due("go", x.go(), 4);
        Check.due("deficit of 2", x.bucket(2, 3), 20);
        Check.due("deficit of 0", x.bucket(0, 3), 50);
        Check.dueRow("lists", new int[] {x.order(0), x.order(1), x.order(2)}, 2, 0, -2);
        // 2 is old and has none: free. 0 sends.
        Check.due("go", x.go(), 1);
        Check.due("2 is free", x.bucket(2, 4), 0);
        Check.due("free ones", x.count(9), 3);
        Check.due("go", x.go(), -2);
        Check.due("all free", x.count(9), 4);
        Check.due("order(-1)", x.order(-1), NONE);
        Check.due("deficit of a free one stays as the rounds left it", x.bucket(0, 3), 100);
    }

    private static void emptyNewBucketGoesBehindOld() {
        QueueKeeper x = Check.keeper("quantum 100;come 1 150 0;come 1 10 0;come 5 60 0;go 1;go 1;");
        // 0 is old with 50; 2 is new with 40 and has no frame: it must not be free at once.
        Check.due("2 is new", x.bucket(2, 4), 1);
        Check.due("go", x.go(), 1);
        Check.due("2 is old now", x.bucket(2, 4), 2);
        Check.due("0 is first", x.order(0), 0);
        Check.due("2 is behind", x.order(1), 2);
        Check.due("a new one is ahead of both", x.come(7, 10, 0), 3);
        Check.dueRow("lists", new int[] {x.order(0), x.order(1), x.order(2), x.order(3)}, 3, 0, 2, -2);
    }

    private static void rateMovesTime() {
        QueueKeeper x = Check.keeper("rate 40;come 1 100 0;come 1 40 0;come 1 1 0;");
        x.go();
        Check.due("100 by 40, upwards", x.count(0), 3);
        Check.due("sent ahead of it", x.frame(0, 7), 0);
        x.go();
        Check.due("40 by 40", x.count(0), 4);
        x.go();
        Check.due("1 by 40", x.count(0), 5);
        x.go();
        Check.due("none", x.count(0), 5);
    }

    private static void bucketRefuses() {
        QueueKeeper x = new QueueKeeper();
        int[][] calls = {{-1, 0, 1}, {4, 0, 1}, {4, 11, 1}, {-1, -1, 1}, {Integer.MAX_VALUE, 0, 1},
            {0, 11, 2}, {3, -1, 2}, {0, Integer.MIN_VALUE, 2}, {3, 10, 0}, {0, 0, 0}};
        for (int[] call : calls) {
            int thrown = 0;
            try {
                x.bucket(call[0], call[1]);
            } catch (IndexOutOfBoundsException e) {
                thrown = e.getClass() == IndexOutOfBoundsException.class ? 1 : 3;
            } catch (java.util.NoSuchElementException e) {
                thrown = e.getClass() == java.util.NoSuchElementException.class ? 2 : 3;
            }
            Check.due("bucket(" + call[0] + ", " + call[1] + ") throws", thrown, call[2]);
        }
    }

    private static void questionsRefuse() {
        QueueKeeper x = Check.keeper("come 1 10 0;pass 4;come 1 20 1;pass 3;");
        Check.due("inBucket(-1, 0)", x.inBucket(-1, 0), NONE);
        Check.due("inBucket(4, 0)", x.inBucket(4, 0), NONE);
        Check.due("inBucket(0, -1)", x.inBucket(0, -1), NONE);
        Check.due("inBucket(0, MAX)", x.inBucket(0, Integer.MAX_VALUE), -2);
        Check.due("order(MAX)", x.order(Integer.MAX_VALUE), -2);
        Check.due("frame(2, 0)", x.frame(2, 0), NONE);
        Check.due("frame(-1, 0)", x.frame(-1, 0), NONE);
        Check.due("frame(0, 8)", x.frame(0, 8), NONE);
        Check.due("frame(0, -1)", x.frame(0, -1), NONE);
        Check.due("eldest(0, 0)", x.eldest(0, 0), 7);
        Check.due("eldest(0, 1)", x.eldest(0, 1), 0);
        Check.due("eldest(1, 0)", x.eldest(1, 0), -2);
        Check.due("eldest(1, 1)", x.eldest(1, 1), -2);
        Check.due("eldest(0, 2)", x.eldest(0, 2), NONE);
        Check.due("eldest(0, -1)", x.eldest(0, -1), NONE);
        Check.due("eldest(4, 0)", x.eldest(4, 0), NONE);
        Check.due("eldest(-1, 0)", x.eldest(-1, 0), NONE);
        Check.due("count(-1)", x.count(-1), NONE);
        Check.due("count(20)", x.count(20), NONE);
        x.go();
        Check.due("eldest(0, 0) of the next", x.eldest(0, 0), 3);
        Check.due("eldest(0, 1) of the next", x.eldest(0, 1), 1);
    }
}
