/** Promises 15 to 17: settle, watch, watched. */
public final class SettleWatchTest {
    private static final int NONE = QueueKeeper.NONE;

    public static void main(String[] args) {
        settling();
        settledCounts();
        watchesThemselves();
        whatWatchesCount();
        Check.finish("SettleWatchTest");
    }

    private static void settling() {
        QueueKeeper x = new QueueKeeper();
        int[] first = {5, 100, 300, 40, 0, 0};
        int[] low = {1, 10, 50, 1, 0, 0};
        int[] high = {99, 999, 3000, 60, 3000, 1500};
        int[] told = {11, 12, 13, 14, 15, 17};
        for (int what = 0; what < 6; what++) {
            Check.due("too low " + what, x.settle(what, low[what] - 1), NONE);
            Check.due("too high " + what, x.settle(what, high[what] + 1), NONE);
            Check.due("lowest " + what, x.settle(what, low[what]), first[what]);
            Check.due("is " + what, x.count(told[what]), low[what]);
            Check.due("highest " + what, x.settle(what, high[what]), low[what]);
            Check.due("is " + what, x.count(told[what]), high[what]);
        }
        Check.due("settle(6, 1)", x.settle(6, 1), NONE);
        Check.due("settle(-1, 1)", x.settle(-1, 1), NONE);
        Check.due("buckets stay", x.count(8), 4);
    }

    private static void settledCounts() {
        QueueKeeper x = Check.keeper("sets 1;ways 1;come 1 100 0;come 1 100 0;come 1 100 0;");
        x.settle(5, 7);
        x.go();
        Check.due("rate 7", x.count(0), 15);
        x.settle(0, 15);
        x.settle(1, 77);
        x.go();
        Check.due("target 15 is reached, interval 77", x.bucket(0, 9), 92);
        x.settle(0, 99);
        x.go();
        Check.due("target 99 isn't", x.bucket(0, 9), -2);
        x.settle(2, 60);
        x.go();
        x.come(1, 1, 0);
        Check.due("quantum 60", x.bucket(0, 3), 60);
    }

    private static void watchesThemselves() {
        QueueKeeper x = new QueueKeeper();
        Check.due("watch(6, 0)", x.watch(6, 0), NONE);
        Check.due("watch(-1, 0)", x.watch(-1, 0), NONE);
        Check.due("watch(0, -1)", x.watch(0, -1), NONE);
        Check.due("watch(0, 100000)", x.watch(0, 100000), NONE);
        for (int k = 0; k < 6; k++) {
            Check.due("watched(" + k + ") ahead of it", x.watched(k), -2);
            Check.due("watch(" + k + ", ..)", x.watch(k, k == 0 ? 99999 : 0), k);
            Check.due("watched(" + k + ")", x.watched(k), 0);
            Check.due("watches", x.count(10), k + 1);
        }
        Check.due("a seventh", x.watch(0, 0), -2);
        Check.due("a wrong seventh", x.watch(9, 0), NONE);
        Check.due("watched(6)", x.watched(6), -2);
        Check.due("watched(-1)", x.watched(-1), NONE);
        Check.due("watched(MAX)", x.watched(Integer.MAX_VALUE), -2);
    }

    private static void whatWatchesCount() {
        // Frames of 100 bytes of key 1, quantum 150: deficits 50, -50, then 0, ...
        QueueKeeper x = Check.keeper("target 5;interval 10;quantum 150;sets 1;ways 1;limit 7;");
        for (int i = 0; i < 4; i++) {
            x.come(1, 100, 0);
        }
        x.come(1, 90, 1);
        x.come(2, 110, 1);
        x.pass(4);
        Check.due("sent ahead of the watches", x.go(), 0);
        int[][] watches = {{0, 6}, {1, 1}, {2, 49}, {3, 100}, {4, 0}, {5, 1}};
        for (int[] watch : watches) {
            x.watch(watch[0], watch[1]);
        }
        x.pass(1);
        Check.due("go at 5: deficit -50, wait 5", x.go(), 1);
        Check.due("wait 5 isn't 6", x.watched(0), 0);
        Check.due("-50 is less than -49", x.watched(2), 1);
        x.pass(10);
        Check.due("go at 15: 2 is dropped, deficit 0", x.go(), 3);
        Check.due("wait 15", x.watched(0), 1);
        Check.due("0 isn't less than -49", x.watched(2), 1);
        Check.due("dropped of key 1", x.watched(1), 1);
        x.pass(15);
        Check.due("go at 30: 4 is marked, 90 bytes", x.go(), 4);
        Check.due("90 isn't 100", x.watched(3), 0);
        Check.due("go at 30: 5 is marked, 110 bytes", x.go(), 5);
        Check.due("110 is", x.watched(3), 1);
        Check.due("not free yet", x.watched(5), 0);
        Check.due("none is left", x.go(), -2);
        Check.due("free", x.watched(5), 1);
        Check.due("still nothing to be free", x.go(), -2);
        Check.due("free once", x.watched(5), 1);
        Check.due("none pushed out", x.watched(4), 0);
        for (int i = 0; i < 9; i++) {
            x.come(3, 10, 0);
        }
        Check.due("two pushed out of bucket 0", x.watched(4), 2);
        for (int i = 0; i < 9; i++) {
            x.go();
        }
        Check.due("the tag is 3 now", x.watched(5), 1);
        Check.due("waits of 6 or more", x.watched(0), 3);
        Check.due("deficits", x.watched(2), 2);
        x.text(0);
        Check.due("a text ends them", x.watched(0), -2);
    }
}
