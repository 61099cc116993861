/** Promises 8 to 14: run, sender, whose, ifRun, firstCut, leastLimit, bestTarget. */
public final class SendersTest {
    private static final int NONE = QueueKeeper.NONE;

    public static void main(String[] args) {
        growing();
        cutting();
        hearingLate();
        markedOnesCut();
        windowHasBounds();
        twoSenders();
        otherFramesAreNobodys();
        asking();
        bestTargets();
        refusing();
        Check.finish("SendersTest");
    }

    private static void growing() {
        QueueKeeper x = Check.keeper("sets 1;ways 1;sender 9 100 2 3 0;");
        Check.dueRow("first", Check.senderRow(x, 0), 9, 100, 200, 3, 0, 0, 0, -2, 0);
        Check.due("tick 1", x.run(1), 1);
        Check.due("two came", x.count(1), 2);
        Check.due("now", x.count(0), 1);
        Check.due("tick 2", x.run(1), 1);
        Check.due("tick 3", x.run(1), 0);
        Check.dueRow("at 3", Check.senderRow(x, 0), 9, 100, 200, 3, 0, 2, 0, -2, 0);
        Check.due("tick 4", x.run(1), 1);
        Check.dueRow("at 4", Check.senderRow(x, 0), 9, 100, 250, 3, 0, 2, 0, -2, 1);
        Check.due("tick 5", x.run(1), 1);
        Check.dueRow("at 5", Check.senderRow(x, 0), 9, 100, 290, 3, 0, 2, 0, -2, 2);
        // 290 becomes 324 by frame 2, sent at 3 and heard of at 6.
        Check.due("ticks 6 and 7", x.run(2), 1);
        Check.dueRow("at 7", Check.senderRow(x, 0), 9, 100, 324, 3, 0, 3, 0, -2, 3);
        Check.due("whose(0)", x.whose(0), 0);
        Check.due("came", x.frame(2, 3), 3);
    }

    private static void cutting() {
        QueueKeeper x = Check.keeper("limit 1;sets 1;ways 1;sender 9 100 4 3 0;");
        Check.due("leastLimit(1)", x.leastLimit(1), 4);
        Check.due("firstCut(3)", x.firstCut(3), -2);
        Check.due("firstCut(4)", x.firstCut(4), 4);
        Check.due("firstCut(200)", x.firstCut(200), 4);
        Check.due("asking changed nothing", x.count(1), 0);
        Check.due("ticks 1 to 3", x.run(3), 1);
        Check.due("pushed out", x.count(7), 3);
        Check.due("tick 4", x.run(1), 1);
        // Frames 0, 1, 2 were pushed out: cut once; 3 was sent: 200 and 50. Two frames come.
        Check.dueRow("at 4", Check.senderRow(x, 0), 9, 100, 250, 3, 0, 2, 1, 3, 4);
        // 4 was pushed out, 5 sent, both at 3: heard of at 6, 3 behind the cut.
        Check.due("ticks 5, 6", x.run(2), 0);
        Check.due("firstCut(1)", x.firstCut(1), 1);
        x.run(1);
        Check.dueRow("at 7", Check.senderRow(x, 0), 9, 100, 205, 3, 0, 2, 2, 6, 6);
    }

    private static void hearingLate() {
        QueueKeeper x = Check.keeper("limit 1;sets 1;ways 1;sender 9 100 4 3 0;run 1;");
        x.pass(50);
        x.run(1);
        Check.due("it is cut as it hears, not as it might have", x.sender(0, 7), 51);
        Check.due("of all four", x.sender(0, 8), 4);
    }

    private static void markedOnesCut() {
        QueueKeeper x = Check.keeper("target 1;interval 10;sets 1;ways 1;quantum 3000;sender 9 10 20 2 1;");
        x.run(1);
        // 20 at once, one sent a tick: the second waits 1 at 1, above is 11; marked at 11 first.
        x.run(10);
        Check.due("none marked", x.count(6), 0);
        Check.due("firstCut(3)", x.firstCut(3), 3);
        Check.due("firstCut(2)", x.firstCut(2), -2);
        x.run(1);
        Check.due("marked", x.past(2, 0), 11);
        x.run(2);
        Check.due("cut at 13", x.sender(0, 7), 13);
        Check.due("cuts", x.sender(0, 6), 1);
        Check.due("half", x.sender(0, 2), 1000);
    }

    private static void windowHasBounds() {
        QueueKeeper x = Check.keeper("limit 60;quantum 3000;sets 1;ways 1;target 99;sender 9 1 20 1 0;");
        x.run(5);
        Check.due("2000 at most", x.sender(0, 2), 2000);
        QueueKeeper y = Check.keeper("limit 1;sets 1;ways 1;sender 9 100 1 1 0;sender 8 1 1 1 0;");
        y.run(2);
        // Frame 0 of 9 was pushed out as that of 8 came.
        Check.due("100 at least", y.sender(0, 2), 100);
        Check.due("a cut all the same", y.sender(0, 6), 1);
        Check.due("the other one grows", y.sender(1, 2), 200);
    }

    private static void twoSenders() {
        QueueKeeper x = Check.keeper("sets 1;ways 2;sender 9 100 2 1 0;sender 4 70 3 1 1;run 1;");
        int[] whose = {x.whose(0), x.whose(1), x.whose(2), x.whose(3), x.whose(4), x.whose(5)};
        Check.dueRow("by numbers", whose, 0, 0, 1, 1, 1, NONE);
        Check.dueRow("frame 3", Check.frameRow(x, 3), 4, 70, 1, 0, 1, 0, 0, -2);
        Check.due("senders", x.count(19), 2);
        // Frame 0 was sent at 0, of which its sender hears at 1: 200 and 50.
        Check.due("windows together", x.ifRun(1, 5), 250 + 300);
    }

    private static void otherFramesAreNobodys() {
        QueueKeeper x = Check.keeper("sets 1;ways 1;sender 9 100 1 1 0;come 9 100 0;run 1;");
        Check.due("the line's frame", x.whose(0), -2);
        Check.due("its own", x.whose(1), 0);
        x.run(1);
        Check.due("it doesn't hear of others", x.sender(0, 8), 0);
        Check.due("out", x.sender(0, 5), 1);
        x.run(1);
        Check.due("now it hears", x.sender(0, 8), 1);
        Check.due("whose(-1)", x.whose(-1), NONE);
    }

    private static void asking() {
        QueueKeeper x = Check.keeper("rate 100;limit 2;sets 1;ways 1;sender 9 100 3 2 0;");
        x.watch(0, 0);
        // Each tick: at most one sent, and now is 2 more then, 1 else.
        Check.due("ifRun(1, 0)", x.ifRun(1, 0), 1);
        Check.due("ifRun(1, 1)", x.ifRun(1, 1), 0);
        Check.due("ifRun(1, 2)", x.ifRun(1, 2), 0);
        Check.due("ifRun(1, 3)", x.ifRun(1, 3), 1);
        Check.due("ifRun(1, 4)", x.ifRun(1, 4), 2);
        Check.due("ifRun(1, 5)", x.ifRun(1, 5), 300);
        // Tick 2 at 2: hears that frame 0 was pushed out (cut: 150), then that 1 was sent (216).
        Check.due("ifRun(2, 5)", x.ifRun(2, 5), 216);
        Check.due("ifRun(2, 4)", x.ifRun(2, 4), 4);
        Check.due("watches count nothing", x.watched(0), 0);
        Check.due("nothing came", x.count(1), 0);
        Check.due("now", x.count(0), 0);
        Check.due("leastLimit(1)", x.leastLimit(1), 3);
        Check.due("leastLimit(200)", x.leastLimit(200), leastLimitByTrying(200));
        Check.due("run", x.run(2), 2);
        Check.due("the same", x.sender(0, 2), 216);

        QueueKeeper y = Check.keeper("limit 3;sender 1 9 20 1 0;sender 2 9 20 1 0;sender 3 9 20 1 0;"
            + "sender 4 9 20 1 0;");
        Check.due("80 at once are too many for each limit", y.leastLimit(1), -2);
        QueueKeeper w = Check.keeper("sender 1 9 20 1 0;sender 2 9 20 1 0;sender 3 9 20 1 0;");
        Check.due("60 at once", w.leastLimit(1), 60);
        QueueKeeper z = Check.keeper("come 1 1 0;come 1 1 0;");
        Check.due("none comes", z.leastLimit(9), 1);
    }

    private static int leastLimitByTrying(int n) {
        for (int limit = 1; limit <= 60; limit++) {
            QueueKeeper x = Check.keeper("rate 100;limit " + limit + ";sets 1;ways 1;sender 9 100 3 2 0;");
            x.run(n);
            if (x.count(7) == 0) {
                return limit;
            }
        }
        return -2;
    }

    private static void bestTargets() {
        String[] texts = {"interval 10;sets 1;ways 1;sender 9 100 12 2 0;",
            "interval 12;sets 1;ways 2;quantum 50;sender 9 100 9 4 1;sender 2 300 12 9 0;",
            "interval 10;rate 90;sender 9 500 9 4 0;sender 2 300 12 9 0;sender 3 20 20 5 0;"};
        for (String text : texts) {
            for (int n = 20; n <= 200; n += 60) {
                int best = 0;
                int most = -1;
                for (int target = 1; target <= 99; target++) {
                    QueueKeeper y = Check.keeper("target " + target + ";" + text);
                    y.run(n);
                    int bytes = y.flow(9, 0) + y.flow(2, 0) + y.flow(3, 0);
                    if (bytes > most) {
                        most = bytes;
                        best = target;
                    }
                }
                QueueKeeper x = Check.keeper(text);
                Check.due("bestTarget(" + n + ") of " + text, x.bestTarget(n), best);
                Check.due("the target stays", x.count(11), 5);
            }
        }
        QueueKeeper z = Check.keeper("interval 10;quantum 3000;sets 1;ways 1;");
        for (int i = 0; i < 11; i++) {
            z.come(1, 10, 0);
        }
        z.pass(98);
        // Up to 98 above is 108, where the 11th is dropped; by 99 above is 109.
        Check.due("bestTarget(11)", z.bestTarget(11), 99);
        Check.due("bestTarget(10)", z.bestTarget(10), 1);
    }

    private static void refusing() {
        QueueKeeper x = Check.keeper("target 99;sender 9 100 1 1 0;");
        for (int n : new int[] {0, -1, 201, Integer.MAX_VALUE, Integer.MIN_VALUE}) {
            Check.due("run(" + n + ")", x.run(n), NONE);
            Check.due("ifRun(" + n + ", 0)", x.ifRun(n, 0), NONE);
            Check.due("firstCut(" + n + ")", x.firstCut(n), NONE);
            Check.due("leastLimit(" + n + ")", x.leastLimit(n), NONE);
            Check.due("bestTarget(" + n + ")", x.bestTarget(n), NONE);
        }
        Check.due("ifRun(1, 6)", x.ifRun(1, 6), NONE);
        Check.due("ifRun(1, -1)", x.ifRun(1, -1), NONE);
        Check.due("sender(1, 0)", x.sender(1, 0), NONE);
        Check.due("sender(-1, 0)", x.sender(-1, 0), NONE);
        Check.due("sender(0, 9)", x.sender(0, 9), NONE);
        Check.due("sender(0, -1)", x.sender(0, -1), NONE);
        Check.due("now", x.count(0), 0);
        Check.due("run(200)", x.run(200), 200);
        Check.due("now", x.count(0), 200);
    }
}
