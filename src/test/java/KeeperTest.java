/** Promises 7, 20, 24, 26: when frames are dropped or marked, and what is told of it. */
public final class KeeperTest {
    private static final int NONE = QueueKeeper.NONE;
    private static final String ONE = "target 5;interval 10;quantum 3000;sets 1;ways 1;";

    public static void main(String[] args) {
        droppingMoreOften();
        beginningAgain();
        beginningAgainLate();
        marking();
        smallQueues();
        theLastOneDropped();
        leastWaits();
        pastRefuses();
        Check.finish("KeeperTest");
    }

    private static void come(QueueKeeper x, int frames, int may) {
        for (int i = 0; i < frames; i++) {
            x.come(1, 100, may);
        }
    }

    private static void due(QueueKeeper x, String when, int count, int last, int dropping, int next,
            int above, int root) {
        int[] row = new int[6];
        for (int i = 0; i < 6; i++) {
            row[i] = x.bucket(0, 5 + i);
        }
        Check.dueRow(when, row, count, last, dropping, next, above, root);
    }

    private static void droppingMoreOften() {
        QueueKeeper x = Check.keeper(ONE);
        come(x, 8, 0);
        x.pass(5);
        Check.due("go at 5", x.go(), 0);
        due(x, "at 5", 0, 0, 0, 0, 15, 65535);
        x.pass(10);
        Check.due("go at 15 drops one", x.go(), 2);
        due(x, "at 15", 1, 1, 1, 24, 15, 65535);
        x.pass(9);
        Check.due("go at 24 drops one", x.go(), 4);
        due(x, "at 24", 2, 1, 1, 29, 15, 32769);
        x.pass(5);
        Check.due("go at 29 drops one", x.go(), 6);
        due(x, "at 29", 3, 1, 1, 34, 15, 36864);
        x.pass(1);
        Check.due("go at 30 is ahead of next", x.go(), 7);
        due(x, "at 30", 3, 1, 1, 34, 15, 36864);
        Check.due("none is left", x.go(), -2);
        due(x, "at the end", 3, 1, 0, 34, -2, 36864);
        Check.dueRow("dropped", new int[] {x.past(1, 0), x.past(1, 1), x.past(1, 2), x.past(1, 3)}, 1, 3, 5, -2);
        Check.dueRow("sent", new int[] {x.past(0, 0), x.past(0, 1), x.past(0, 4), x.past(0, 5)}, 0, 2, 7, -2);
        Check.dueRow("frame 3", Check.frameRow(x, 3), 1, 100, 0, 0, 0, 0, 2, 24);
        Check.due("dropping costs no deficit", x.bucket(0, 3), 3000 - 500);
        x.come(1, 1, 0);
        due(x, "begun anew", 0, 0, 0, 0, -2, 65535);
    }

    /** Until 29 as above, then frames that don't wait, then again ones that do. */
    private static QueueKeeper calmed() {
        QueueKeeper x = Check.keeper(ONE);
        come(x, 7, 0);
        x.pass(5);
        x.go();
        x.pass(10);
        x.go();
        x.pass(9);
        x.go();
        x.pass(5);
        come(x, 4, 0);
        Check.due("go at 29", x.go(), 6);
        x.pass(1);
        Check.due("go at 30", x.go(), 7);
        due(x, "calm at 30", 3, 1, 0, 34, -2, 36864);
        return x;
    }

    private static void beginningAgain() {
        QueueKeeper x = calmed();
        x.pass(5);
        Check.due("go at 35", x.go(), 8);
        due(x, "at 35", 3, 1, 0, 34, 45, 36864);
        x.pass(10);
        Check.due("go at 45 drops 9", x.go(), 10);
        due(x, "at 45", 2, 2, 1, 51, 45, 43632);
    }

    private static void beginningAgainLate() {
        // NOW less NEXT is 160, 16 times the interval: from 1 on again; one earlier it isn't.
        for (int late = 0; late <= 1; late++) {
            QueueKeeper x = calmed();
            x.pass(5);
            x.go();
            x.pass(34 + 159 + late - 35);
            Check.due("go much later", x.go(), 10);
            int now = 193 + late;
            if (late == 1) {
                due(x, "at 194", 1, 1, 1, now + 9, 45, 65535);
            } else {
                due(x, "at 193", 2, 2, 1, now + 6, 45, 43632);
            }
        }
    }

    private static void marking() {
        QueueKeeper x = Check.keeper(ONE);
        come(x, 4, 1);
        come(x, 2, 0);
        x.pass(5);
        Check.due("go at 5", x.go(), 0);
        x.pass(10);
        Check.due("go at 15 marks", x.go(), 1);
        due(x, "at 15", 1, 1, 1, 24, 15, 65535);
        x.pass(30);
        Check.due("go at 45 marks once, though next is past", x.go(), 2);
        due(x, "at 45", 2, 1, 1, 29, 15, 32769);
        Check.due("go at 45 marks the next", x.go(), 3);
        due(x, "at 45", 3, 1, 1, 34, 15, 36864);
        Check.due("go at 45 drops both", x.go(), -2);
        Check.dueRow("marked", new int[] {x.past(2, 0), x.past(2, 1), x.past(2, 2), x.past(2, 3)}, 1, 2, 3, -2);
        Check.due("marked", x.count(6), 3);
        Check.due("dropped", x.count(5), 2);
        Check.due("sent", x.count(4), 4);
        Check.dueRow("frame 2", Check.frameRow(x, 2), 1, 100, 1, 0, 0, 1, 1, 45);
        Check.due("frame 0 isn't marked", x.frame(0, 5), 0);
    }

    private static void smallQueues() {
        QueueKeeper x = Check.keeper(ONE + "small 200;");
        come(x, 4, 0);
        x.pass(5);
        x.go();
        Check.due("300 are left", x.bucket(0, 9), 15);
        x.pass(10);
        Check.due("go", x.go(), 2);
        Check.due("one was late with 200 left, then 100 are left", x.count(5), 1);
        due(x, "dropping, but nothing above", 1, 1, 1, 24, -2, 65535);
        x.pass(20);
        Check.due("go", x.go(), 3);
        due(x, "not dropping any more", 1, 1, 0, 24, -2, 65535);
    }

    private static void theLastOneDropped() {
        QueueKeeper x = Check.keeper(ONE);
        come(x, 2, 0);
        x.pass(5);
        x.go();
        x.pass(10);
        Check.due("the last one is dropped, none is sent", x.go(), -2);
        Check.due("dropped", x.count(5), 1);
        Check.due("free", x.count(9), 1);
        due(x, "it is dropping, without above", 1, 1, 1, 24, -2, 65535);
    }

    private static void leastWaits() {
        QueueKeeper x = Check.keeper(ONE);
        Check.due("never", x.least(0), -2);
        come(x, 4, 0);
        x.pass(3);
        Check.due("none taken", x.least(0), -2);
        x.go();
        Check.due("3", x.least(0), 3);
        x.pass(2);
        x.go();
        Check.due("3 is less than 5", x.least(0), 3);
        x.pass(7);
        Check.due("9 ago", x.least(0), 3);
        x.pass(1);
        Check.due("10 ago isn't less than 10", x.least(0), 5);
        x.pass(2);
        Check.due("all too old", x.least(0), -2);
        Check.due("this one drops frame 2", x.go(), 3);
        Check.due("a dropped one was taken too", x.least(0), 15);
        Check.due("settle", x.settle(1, 999), 10);
        Check.due("with a longer interval", x.least(0), 3);
        x.go();
        x.come(2, 1, 0);
        Check.due("begun anew", x.least(0), -2);
        Check.due("least(1)", x.least(1), NONE);
        Check.due("least(-1)", x.least(-1), NONE);

        QueueKeeper y = Check.keeper("limit 1;sets 1;ways 1;come 1 5 0;pass 2;come 1 5 0;");
        Check.due("pushed out is not taken", y.least(0), -2);
    }

    private static void pastRefuses() {
        QueueKeeper x = new QueueKeeper();
        for (int what = 0; what < 4; what++) {
            Check.due("past(" + what + ", 0)", x.past(what, 0), -2);
            Check.due("past(" + what + ", -1)", x.past(what, -1), NONE);
        }
        Check.due("past(4, 0)", x.past(4, 0), NONE);
        Check.due("past(-1, 0)", x.past(-1, 0), NONE);
        Check.due("past(0, MAX)", x.past(0, Integer.MAX_VALUE), -2);
    }
}
