/** Promises 32 to 35: ahead, drain, leastTarget, bestQuantum. */
public final class ForecastTest {
    private static final int NONE = QueueKeeper.NONE;

    public static void main(String[] args) {
        whoIsNext();
        nextWithRate();
        draining();
        drainingDropsAll();
        leastTargets();
        bestQuantums();
        refusing();
        Check.finish("ForecastTest");
    }

    private static void whoIsNext() {
        QueueKeeper x = Check.keeper("quantum 100;come 1 250 0;come 1 250 0;come 5 60 0;come 5 60 0;come 5 60 0;");
        int[] row = {x.ahead(0), x.ahead(1), x.ahead(2), x.ahead(3), x.ahead(4), x.ahead(5)};
        Check.dueRow("ahead", row, 0, 2, 3, 4, 1, -2);
        Check.due("nothing was sent", x.count(4), 0);
        Check.due("deficits stay", x.bucket(0, 3), 100);
        Check.due("go", x.go(), 0);
        Check.due("ahead(0)", x.ahead(0), 2);
        Check.due("ahead(-1)", x.ahead(-1), NONE);
        Check.due("ahead(MAX)", x.ahead(Integer.MAX_VALUE), -2);
    }

    private static void nextWithRate() {
        // At 5 above is 15; frames of 100 by 10 take 10 each, so the next one is late at 15.
        QueueKeeper x = Check.keeper("rate 10;target 5;interval 10;quantum 3000;sets 1;ways 1;"
            + "come 1 100 0;come 1 100 0;come 1 100 0;come 1 100 0;pass 5;");
        Check.dueRow("ahead", new int[] {x.ahead(0), x.ahead(1), x.ahead(2)}, 0, 2, -2);
    }

    private static void draining() {
        QueueKeeper x = Check.keeper("target 5;interval 10;quantum 3000;sets 1;ways 1;");
        for (int i = 0; i < 6; i++) {
            x.come(1, 100, i < 4 ? 0 : 1);
        }
        x.watch(1, 1);
        x.pass(1);
        // By 4: 1, 5 (above 15), 9, 13 send 0 to 3; 17 marks 4 (next 26), 21 sends 5, ends at 25.
        Check.due("drain(4, 0)", x.drain(4, 0), 6);
        Check.due("drain(4, 1)", x.drain(4, 1), 0);
        Check.due("drain(4, 2)", x.drain(4, 2), 1);
        Check.due("drain(4, 3)", x.drain(4, 3), 25);
        Check.due("drain(4, 4)", x.drain(4, 4), 21);
        // By 10: 1 sends 0; 11 sends 1 (above 21); 21 drops 2, sends 3 (next 30); 31 marks 4
        // (next 35); 41 marks 5, ends at 51.
        Check.due("drain(10, 0)", x.drain(10, 0), 5);
        Check.due("drain(10, 1)", x.drain(10, 1), 1);
        Check.due("drain(10, 2)", x.drain(10, 2), 2);
        Check.due("drain(10, 3)", x.drain(10, 3), 51);
        Check.due("drain(10, 4)", x.drain(10, 4), 41);
        Check.due("drain(0, 3)", x.drain(0, 3), 1);
        Check.due("drain(0, 4)", x.drain(0, 4), 1);
        // By 999: 1 and 1000 send 0 and 1; 1999 drops 2, sends 3; 2998 and 3997 mark 4 and 5.
        Check.due("drain(999, 0)", x.drain(999, 0), 5);
        Check.due("drain(999, 2)", x.drain(999, 2), 2);
        Check.due("nothing changed", x.count(2), 6);
        Check.due("now", x.count(0), 1);
        Check.due("nothing counted", x.watched(0), 0);
        Check.due("no drops", x.count(5), 0);
        for (int what = 0; what < 5; what++) {
            int[] none = {0, 0, 0, 0, -2};
            Check.due("drain(7, " + what + ") of none", new QueueKeeper().drain(7, what), none[what]);
        }
    }

    private static void drainingDropsAll() {
        QueueKeeper x = Check.keeper("target 5;interval 10;quantum 3000;sets 1;ways 1;come 1 9 0;come 1 9 0;"
            + "pass 5;go 1;pass 10;");
        Check.due("none is sent", x.drain(7, 0), 0);
        Check.due("one is dropped", x.drain(7, 1), 1);
        Check.due("now", x.drain(7, 3), 22);
        Check.due("no wait", x.drain(7, 4), -2);
    }

    private static void leastTargets() {
        QueueKeeper x = Check.keeper("target 5;interval 10;quantum 3000;sets 1;ways 1;");
        for (int i = 0; i < 6; i++) {
            x.come(1, 100, i % 2);
        }
        // By 5 frames go at 0, 5, .., 25, and so long they wait. From 15 on above is 25, if the
        // target is up to 15; from 20 on it would be 30.
        Check.due("leastTarget(5)", x.leastTarget(5), 16);
        Check.due("leastTarget(0)", x.leastTarget(0), 1);
        Check.due("leastTarget(1)", x.leastTarget(1), 1);
        // By 30: 30, 60, 90, 120, 150: with 91 up to 99 above is 130 by 120, late at 150.
        Check.due("leastTarget(30)", x.leastTarget(30), -2);
        Check.due("the target stays", x.count(11), 5);
        for (int i = 6; i < 9; i++) {
            x.come(1, 100, 0);
        }
        // By 14: .., 98, 112. Up to 98 above is 108 then, by 99 it is 122.
        Check.due("leastTarget(14)", x.leastTarget(14), 99);
    }

    private static void bestQuantums() {
        // Key 1: one of 300 and one of 300; key 5: four of 50.
        String frames = "come 1 300 0;come 1 300 0;come 5 50 0;come 5 50 0;come 5 50 0;come 5 50 0;";
        QueueKeeper x = Check.keeper("target 99;rate 10;" + frames);
        for (int e = 0; e < 50; e += 7) {
            int best = 0;
            long least = Long.MAX_VALUE;
            for (int quantum = 50; quantum <= 3000; quantum += 50) {
                QueueKeeper y = Check.keeper("target 99;rate 10;" + frames);
                y.settle(2, quantum);
                while (y.count(2) > 0) {
                    y.go();
                    if (e > 0) {
                        y.pass(e);
                    }
                }
                long waits = y.flow(1, 3) + y.flow(5, 3);
                if (waits < least) {
                    least = waits;
                    best = quantum;
                }
            }
            Check.due("bestQuantum(" + e + ")", x.bestQuantum(e), best);
        }
        Check.due("the quantum stays", x.count(13), 300);
        Check.due("of none", new QueueKeeper().bestQuantum(5), 50);

        // A frame of key 1 takes 5, one of key 5 takes 6, so all of key 1 should go ahead of the
        // second of key 5: behind the first ones 9 of 50 bytes are left, and key 1 is first.
        QueueKeeper v = Check.keeper("target 99;rate 10;quantum 50;");
        for (int i = 0; i < 10; i++) {
            v.come(1, 50, 0);
        }
        v.come(5, 60, 0);
        v.come(5, 60, 0);
        Check.due("nine at a time", v.bestQuantum(0), 450);
        QueueKeeper w = Check.keeper("target 99;interval 999;rate 10;quantum 50;");
        for (int i = 0; i < 31; i++) {
            w.come(1, 100, 0);
        }
        w.come(5, 110, 0);
        w.come(5, 110, 0);
        Check.due("thirty at a time, with a deficit of -50", w.bestQuantum(0), 3000);

        // Deficits are 200 at first, whatever is tried: key 1 sends 1500, and its deficit of -1300
        // takes so many rounds that both of key 5 are ahead of its second one.
        QueueKeeper z = Check.keeper("target 99;quantum 200;come 1 1500 0;come 1 1500 0;come 5 10 0;come 5 10 0;");
        z.settle(5, 100);
        Check.due("all of 5 ahead of the second of 1", z.bestQuantum(0), 50);
    }

    private static void refusing() {
        QueueKeeper x = new QueueKeeper();
        for (int e : new int[] {-1, 1000, Integer.MAX_VALUE, Integer.MIN_VALUE}) {
            Check.due("drain(" + e + ", 0)", x.drain(e, 0), NONE);
            Check.due("leastTarget(" + e + ")", x.leastTarget(e), NONE);
            Check.due("bestQuantum(" + e + ")", x.bestQuantum(e), NONE);
        }
        Check.due("drain(0, 5)", x.drain(0, 5), NONE);
        Check.due("drain(0, -1)", x.drain(0, -1), NONE);
        Check.due("leastTarget(999)", x.leastTarget(999), 1);
        Check.due("bestQuantum(999)", x.bestQuantum(999), 50);
    }
}
