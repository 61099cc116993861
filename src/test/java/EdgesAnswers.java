/** Boundary cases of WATCHES and DRAINED in Terms 3, and of promises 15 to 17, 30 to 35, 37, 38, 40. */
final class EdgesAnswers extends Edge {
    private static final String ONE = "target 5;interval 10;quantum 3000;sets 1;ways 1;";

    static void all() {
        fromThenOn();
        watchedWaits();
        watchedDrops();
        watchedDeficits();
        watchedMarks();
        watchedPushes();
        watchedFreeOnes();
        drained();
        settles();
        watches();
        watchedAnswers();
        flows();
        unevenness();
        aheadOnes();
        drains();
        leastTargets();
        bestQuantums();
        withins();
        middles();
        counts();
    }

    private static void fromThenOn() {
        terms("A WATCH, 6 at most: what it counts from then on, and v:");
        QueueKeeper x = keeper("come 1 9 0;come 1 9 0;go 1;");
        for (int k = 0; k < 6; k++) {
            is("WATCH " + k, x.watch(0, 0), k);
        }
        is("a seventh", x.watch(0, 0), ABSENT);
        is("what was is not counted", x.watched(0), 0);
        x.go();
        for (int k = 0; k < 6; k++) {
            is("all count", x.watched(k), 1);
        }
        x.go();
        is("nothing is SENT", x.watched(5), 1);
    }

    private static void watchedWaits() {
        terms("0 FRAMES SENT whose WAIT is v or more;");
        QueueKeeper x = keeper("come 1 9 1;come 1 9 1;");
        x.watch(0, 0);
        x.watch(0, 6);
        x.watch(0, 7);
        x.watch(0, 8);
        x.watch(0, 99999);
        x.pass(7);
        x.go();
        int[] row = {x.watched(0), x.watched(1), x.watched(2), x.watched(3), x.watched(4)};
        Check.dueRow("WAIT 7", row, 1, 1, 1, 0, 0);
        passTo(x, 99998);
        x.go();
        is("WAIT 99998", x.watched(4), 0);
        is("WAIT 99998", x.watched(3), 1);
        QueueKeeper y = keeper("come 1 9 0;");
        y.watch(0, 99999);
        passTo(y, 99999);
        y.go();
        is("WAIT 99999", y.watched(0), 1);
        // RATE moves NOW behind that.
        QueueKeeper z = keeper("rate 1;come 1 9 0;");
        z.watch(0, 1);
        z.go();
        is("WAIT 0", z.watched(0), 0);
    }

    /** NOW and ABOVE are 15, so that frame 1, of a key, is to be DROPPED or MARKED; 2 is behind it. */
    private static QueueKeeper late(int key, int may) {
        QueueKeeper x = keeper(ONE + "come 1 50 0;come " + key + " 60 " + may + ";come 1 70 " + may + ";pass 5;go 1;pass 10;");
        is("ABOVE", x.bucket(0, 9), 15);
        return x;
    }

    private static void watchedDrops() {
        terms("1 FRAMES DROPPED of KEY v;");
        for (int key : new int[] {0, 1, 7}) {
            QueueKeeper x = late(key, 0);
            x.watch(1, 0);
            x.watch(1, 1);
            x.watch(1, 7);
            x.watch(1, 99999);
            is("go", x.go(), 2);
            is("KEY 0", x.watched(0), key == 0 ? 1 : 0);
            is("KEY 1", x.watched(1), key == 1 ? 1 : 0);
            is("KEY 7, not the TAG", x.watched(2), key == 7 ? 1 : 0);
            is("no such KEY", x.watched(3), 0);
        }
        // PUSHED OUT or MARKED is not DROPPED.
        QueueKeeper y = late(1, 1);
        y.watch(1, 1);
        is("MARKED", y.go(), 1);
        y.settle(3, 1);
        y.come(1, 9, 0);
        is("PUSHED OUT", y.count(7), 1);
        is("none DROPPED", y.watched(0), 0);
    }

    private static void watchedDeficits() {
        terms("2 FRAMES SENT by which DEFICIT became less than 0 less v;");
        for (int bytes = 99; bytes <= 103; bytes++) {
            QueueKeeper x = keeper("quantum 100;come 1 " + bytes + " 0;");
            x.watch(2, 0);
            x.watch(2, 1);
            x.watch(2, 2);
            x.watch(2, 99999);
            x.go();
            int deficit = 100 - bytes;
            is("v 0, DEFICIT " + deficit, x.watched(0), deficit < 0 ? 1 : 0);
            is("v 1, DEFICIT " + deficit, x.watched(1), deficit < -1 ? 1 : 0);
            is("v 2, DEFICIT " + deficit, x.watched(2), deficit < -2 ? 1 : 0);
            is("v 99999", x.watched(3), 0);
        }
        QueueKeeper y = keeper("quantum 50;come 1 1500 0;");
        y.watch(2, 1449);
        y.watch(2, 1450);
        y.go();
        is("-1450 is less than -1449", y.watched(0), 1);
        is("but not than -1450", y.watched(1), 0);
    }

    private static void watchedMarks() {
        terms("3 FRAMES MARKED (newly) of v BYTES or more;");
        QueueKeeper x = late(1, 1);
        for (int v : new int[] {0, 59, 60, 61, 1500, 99999}) {
            x.watch(3, v);
        }
        is("MARKED", x.go(), 1);
        int[] row = {x.watched(0), x.watched(1), x.watched(2), x.watched(3), x.watched(4), x.watched(5)};
        Check.dueRow("60 BYTES", row, 1, 1, 1, 0, 0, 0);
        QueueKeeper y = late(1, 0);
        y.watch(3, 0);
        y.go();
        is("DROPPED is not MARKED", y.watched(0), 0);
    }

    private static void watchedPushes() {
        terms("4 FRAMES PUSHED OUT of BUCKET v;");
        QueueKeeper x = keeper("limit 1;come 5 9 0;");
        x.watch(4, 0);
        x.watch(4, 2);
        x.watch(4, 3);
        x.watch(4, 99999);
        x.come(1, 3, 0);
        Check.dueRow("of 2", new int[] {x.watched(0), x.watched(1), x.watched(2), x.watched(3)}, 0, 1, 0, 0);
        x.come(5, 2, 0);
        Check.dueRow("of 0", new int[] {x.watched(0), x.watched(1), x.watched(2), x.watched(3)}, 1, 1, 0, 0);
        x.come(7, 9, 0);
        Check.dueRow("of 3", new int[] {x.watched(0), x.watched(1), x.watched(2), x.watched(3)}, 1, 1, 1, 0);
    }

    private static void watchedFreeOnes() {
        terms("5 how often a BUCKET with TAG v became FREE.");
        QueueKeeper x = keeper("sets 1;ways 1;come 0 9 0;come 7 9 0;");
        x.watch(5, 0);
        x.watch(5, 7);
        x.watch(5, 99999);
        x.go();
        x.go();
        is("without FRAMES, not FREE", x.watched(0), 0);
        x.go();
        Check.dueRow("TAG 0, whosever FRAMES", new int[] {x.watched(0), x.watched(1), x.watched(2)}, 1, 0, 0);
        x.go();
        is("it is FREE already", x.watched(0), 1);
        x.come(7, 9, 0);
        x.run(2);
        Check.dueRow("TAG 7", new int[] {x.watched(0), x.watched(1), x.watched(2)}, 1, 1, 0);
        x.come(0, 9, 0);
        x.run(2);
        Check.dueRow("TAG 0 again", new int[] {x.watched(0), x.watched(1), x.watched(2)}, 2, 1, 0);
        // Behind OLD it isn't FREE yet.
        QueueKeeper y = keeper("quantum 100;come 1 100 0;come 1 10 0;come 5 10 0;go 2;");
        y.watch(5, 5);
        is("go", y.go(), 1);
        is("the last of OLD", y.watched(0), 0);
        y.go();
        is("FREE", y.watched(0), 1);
    }

    private static void drained() {
        terms("DRAINED by e: as if none came: one is SERVED, NOW is e more, on and on, till there are no FRAMES.");
        QueueKeeper x = keeper("come 1 9 0;come 1 9 0;come 1 9 0;pass 2;");
        is("e 4, three times", x.drain(4, 3), 2 + 12);
        is("WAITS 2, 6, 10", x.drain(4, 4), 10);
        is("e 0", x.drain(0, 3), 2);
        is("e 999", x.drain(999, 3), 2 + 2997);
        is("no FRAMES: NOW stays", new QueueKeeper().drain(999, 3), 0);
        x.settle(5, 3);
        is("RATE, too", x.drain(4, 3), 2 + 12 + 9);
        // As if none came: a SENDER that would send.
        QueueKeeper y = keeper("sender 9 10 20 1 0;come 1 9 0;");
        is("one only", y.drain(5, 0), 1);
        is("NOW", y.drain(5, 3), 5);
        // One that SENDS none, as all are DROPPED, takes e as well.
        QueueKeeper z = keeper(ONE + "come 1 9 0;come 1 9 0;pass 5;go 1;pass 10;");
        is("none is SENT", z.drain(7, 0), 0);
        is("one is DROPPED", z.drain(7, 1), 1);
        is("NOW", z.drain(7, 3), 22);
        is("so there is no WAIT of those SENT", z.drain(7, 4), ABSENT);
    }

    private static void settles() {
        promise(15, "What 0 TARGET, 1 INTERVAL, 2 QUANTUM, 3 LIMIT, 4 SMALL, 5 RATE becomes v (as told above): what it was");
        int[] first = {5, 100, 300, 40, 0, 0};
        int[] low = {1, 10, 50, 1, 0, 0};
        int[] high = {99, 999, 3000, 60, 3000, 1500};
        int[] told = {11, 12, 13, 14, 15, 17};
        for (int what = 0; what < 6; what++) {
            QueueKeeper x = new QueueKeeper();
            is("settle(" + what + ", least)", x.settle(what, low[what]), first[what]);
            is("settle(" + what + ", most)", x.settle(what, high[what]), low[what]);
            is("settle(" + what + ", as it is)", x.settle(what, high[what]), high[what]);
            for (int other = 0; other < 6; other++) {
                is("count(" + told[other] + ")", x.count(told[other]), other == what ? high[other] : first[other]);
            }
        }

        promise(15, "(nothing is PUSHED OUT by it at once);");
        QueueKeeper y = keeper("come 1 9 0;come 1 9 0;come 1 9 0;");
        y.settle(3, 1);
        is("they stand", y.count(2), 3);
        is("none PUSHED OUT", y.count(7), 0);
        y.go();
        is("nor by going", y.count(7), 0);
        is("two stand", y.count(2), 2);

        promise(15, "NONE: no such ones.");
        QueueKeeper z = new QueueKeeper();
        for (int what = 0; what < 6; what++) {
            for (int v : new int[] {low[what] - 1, high[what] + 1, MIN, MAX}) {
                is("settle(" + what + ", " + v + ")", z.settle(what, v), NONE);
            }
            is("it stays", z.count(told[what]), first[what]);
        }
        for (int what : new int[] {-1, 6, 7, MIN, MAX}) {
            is("settle(" + what + ", 50)", z.settle(what, 50), NONE);
            is("settle(" + what + ", 1)", z.settle(what, 1), NONE);
        }
    }

    private static void watches() {
        promise(16, "A WATCH, what 0 .. 5, v 0 .. 99999: its number;");
        for (int what = 0; what <= 5; what++) {
            QueueKeeper x = new QueueKeeper();
            is("watch(" + what + ", 0)", x.watch(what, 0), 0);
            is("watch(" + what + ", 99999)", x.watch(what, 99999), 1);
            is("WATCHES", x.count(10), 2);
        }

        promise(16, "NONE: no such ones;");
        QueueKeeper y = new QueueKeeper();
        for (int[] row : new int[][] {{-1, 0}, {6, 0}, {MIN, 0}, {MAX, 0}, {0, -1}, {0, 100000}, {5, MIN}, {5, MAX}}) {
            is("watch(" + row[0] + ", " + row[1] + ")", y.watch(row[0], row[1]), NONE);
        }
        is("no WATCHES", y.count(10), 0);

        promise(16, "-2: there are 6.");
        for (int k = 0; k < 6; k++) {
            is("WATCH " + k, y.watch(k, k), k);
        }
        is("a seventh", y.watch(0, 0), ABSENT);
        is("once more", y.watch(5, 99999), ABSENT);
        is("six", y.count(10), 6);
        y.text(0);
        is("behind a text", y.watch(0, 0), 0);
    }

    private static void watchedAnswers() {
        promise(17, "What a WATCH counted;");
        QueueKeeper x = keeper("come 1 9 0;");
        x.watch(0, 0);
        is("nothing yet", x.watched(0), 0);
        x.go();
        is("one", x.watched(0), 1);

        promise(17, "-2: it isn't there;");
        is("watched(1)", x.watched(1), ABSENT);
        is("watched(6)", x.watched(6), ABSENT);
        is("watched(MAX)", x.watched(MAX), ABSENT);
        is("of a new one", new QueueKeeper().watched(0), ABSENT);
        for (int k = 1; k < 6; k++) {
            x.watch(0, 0);
        }
        is("the sixth", x.watched(5), 0);
        is("no seventh", x.watched(6), ABSENT);

        promise(17, "NONE: below 0.");
        is("watched(-1)", x.watched(-1), NONE);
        is("watched(MIN)", x.watched(MIN), NONE);
    }

    private static void flows() {
        promise(30, "BYTES that were SENT of a KEY (what 0), FRAMES that CAME (1), its greatest WAIT of those SENT (2; -2: none "
            + "was), the sum of these (3);");
        QueueKeeper x = keeper("limit 3;sets 1;ways 1;come 0 20 0;come 0 30 0;come 9999 7 0;come 0 11 0;");
        Check.dueRow("none was SENT", flow(x, 0), 0, 3, -2, 0);
        x.go();
        Check.dueRow("SENT at once: WAIT 0", flow(x, 0), 30, 3, 0, 0);
        Check.dueRow("another KEY", flow(x, 9999), 0, 1, -2, 0);
        x.pass(4);
        x.go();
        Check.dueRow("another KEY", flow(x, 9999), 7, 1, 4, 4);
        x.pass(2);
        x.go();
        Check.dueRow("WAITS 0, 6", flow(x, 0), 41, 3, 6, 6);
        x.come(0, 1, 0);
        x.pass(1);
        x.go();
        Check.dueRow("WAITS 0, 6, 1", flow(x, 0), 42, 4, 6, 7);
        Check.dueRow("none CAME", flow(x, 5), 0, 0, -2, 0);
        // DROPPED ones CAME, no more.
        QueueKeeper y = late(1, 0);
        y.go();
        Check.dueRow("one DROPPED", flow(y, 1), 120, 3, 15, 20);

        promise(30, "NONE: no such ones.");
        for (int[] row : new int[][] {{-1, 0}, {10000, 0}, {MIN, 2}, {MAX, 3}, {0, -1}, {0, 4}, {0, MIN}, {0, MAX},
            {10000, 4}, {-1, 2}}) {
            is("flow(" + row[0] + ", " + row[1] + ")", x.flow(row[0], row[1]), NONE);
        }
    }

    private static int[] flow(QueueKeeper x, int key) {
        return new int[] {x.flow(key, 0), x.flow(key, 1), x.flow(key, 2), x.flow(key, 3)};
    }

    private static void unevenness() {
        promise(31, "By how many BYTES SENT KEYS that CAME differ at most;");
        QueueKeeper x = keeper("come 1 30 0;");
        is("one KEY, none SENT", x.uneven(), 0);
        x.go();
        is("one KEY", x.uneven(), 0);
        x.come(5, 40, 0);
        is("a KEY of which none was SENT", x.uneven(), 30);
        x.go();
        is("30 and 40", x.uneven(), 10);
        x.come(3, 35, 0);
        x.go();
        is("the one between is nothing", x.uneven(), 10);
        x.come(7, 1, 0);
        is("40 and 0", x.uneven(), 40);
        x.go();
        is("40 and 1", x.uneven(), 39);

        promise(31, "-2: none CAME.");
        is("a new one", new QueueKeeper().uneven(), ABSENT);
        x.text(0);
        is("behind a text", x.uneven(), ABSENT);
    }

    private static void aheadOnes() {
        promise(32, "The k-th FRAME (0 on) that would be SENT, were they SERVED on and on NOW;");
        QueueKeeper x = keeper("quantum 100;come 1 100 0;come 1 9 0;come 5 9 0;");
        Check.dueRow("ahead", new int[] {x.ahead(0), x.ahead(1), x.ahead(2), x.ahead(3)}, 0, 2, 1, -2);
        // 1 would be DROPPED at 15.
        QueueKeeper y = late(1, 0);
        Check.dueRow("a DROPPED one is not SENT", new int[] {y.ahead(0), y.ahead(1)}, 2, -2);
        QueueKeeper z = keeper("limit 60;sets 1;ways 1;");
        come(z, 60, 1, 1, 0);
        is("the last of sixty", z.ahead(59), 59);

        promise(32, "-2: there are not so many;");
        is("ahead(60)", z.ahead(60), ABSENT);
        is("ahead(199)", z.ahead(199), ABSENT);
        is("ahead(200)", z.ahead(200), ABSENT);
        is("ahead(MAX)", z.ahead(MAX), ABSENT);
        is("a new one", new QueueKeeper().ahead(0), ABSENT);
        is("all would be DROPPED",
            keeper(ONE + "come 1 9 0;come 1 9 0;pass 5;go 1;pass 10;").ahead(0), ABSENT);

        promise(32, "NONE: k is below 0.");
        is("ahead(-1)", z.ahead(-1), NONE);
        is("ahead(MIN)", z.ahead(MIN), NONE);
        is("ahead(-1) of a new one", new QueueKeeper().ahead(-1), NONE);
    }

    private static void drains() {
        promise(33, "DRAINED by e 0 .. 999, what 0 how many would be SENT, 1 DROPPED, 2 MARKED (newly), 3 NOW then, 4 the "
            + "greatest WAIT of those SENT (-2: none is);");
        // By 10: at 5 ABOVE 15; 15 DROPS 1, SENDS 2; NEXT 24: 25 MARKS 3; 35 SENDS 4 (MARKED by NEXT 29).
        QueueKeeper x = keeper(ONE + "come 1 9 0;come 1 9 0;come 1 9 0;come 1 9 1;come 1 9 1;pass 5;");
        Check.dueRow("e 10", drain(x, 10), 4, 1, 2, 45, 35);
        Check.dueRow("e 0", drain(x, 0), 5, 0, 0, 5, 5);
        Check.dueRow("e 999", drain(x, 999), 4, 1, 2, 5 + 4 * 999, 5 + 3 * 999);
        Check.dueRow("none is", drain(new QueueKeeper(), 999), 0, 0, 0, 0, -2);
        Check.dueRow("WAIT 0", drain(keeper("pass 3;come 1 1 0;"), 0), 1, 0, 0, 3, 0);
        // What was SENT, DROPPED, MARKED already is not counted.
        x.go();
        x.pass(10);
        x.go();
        x.pass(10);
        x.go();
        is("so far", x.count(5) * 10 + x.count(6), 11);
        Check.dueRow("what is left", drain(x, 1), 1, 0, 0, 26, 25);
        x.go();
        Check.dueRow("nothing is left", drain(x, 1), 0, 0, 0, 25, -2);

        promise(33, "NONE: no such ones.");
        for (int[] row : new int[][] {{-1, 0}, {1000, 0}, {MIN, 3}, {MAX, 4}, {0, -1}, {0, 5}, {0, MIN}, {0, MAX},
            {1000, 5}, {-1, 4}}) {
            is("drain(" + row[0] + ", " + row[1] + ")", x.drain(row[0], row[1]), NONE);
        }
    }

    private static int[] drain(QueueKeeper x, int e) {
        return new int[] {x.drain(e, 0), x.drain(e, 1), x.drain(e, 2), x.drain(e, 3), x.drain(e, 4)};
    }

    private static void leastTargets() {
        promise(34, "The least TARGET 1 .. 99 by which, DRAINED by e 0 .. 999, none would be DROPPED, none MARKED (newly);");
        for (int may = 0; may <= 1; may++) {
            QueueKeeper x = keeper("interval 10;quantum 3000;sets 1;ways 1;");
            come(x, 6, 1, 9, may);
            // By 5: 0, 5, .., 25. If 15 is TARGET or more, ABOVE is 25, which is LATE.
            is("16", x.leastTarget(5), 16);
            is("e 0", x.leastTarget(0), 1);
            is("e 1", x.leastTarget(1), 1);
            QueueKeeper one = keeper("interval 10;quantum 3000;sets 1;ways 1;");
            come(one, 14, 1, 9, may);
            // By 1: 0, 1, .., 13. Up to 3 ABOVE is 13 or less; by 4 it is 14.
            is("4", one.leastTarget(1), 4);
            come(x, 3, 1, 9, may);
            // By 14: .., 84, 98, 112. If 98 is TARGET or more, ABOVE is 108.
            is("99", x.leastTarget(14), 99);
            is("TARGET stays", x.count(11), 5);

            // By 15: .., 90, 105, 120.
            promise(34, "-2: by none;");
            is("by 99, too", x.leastTarget(15), ABSENT);
            is("e 999", x.leastTarget(999), ABSENT);
            promise(34, "none would be DROPPED, none MARKED (newly);");
        }
        is("no FRAMES", new QueueKeeper().leastTarget(999), 1);
        // One that was DROPPED, one that was MARKED already: nothing new.
        QueueKeeper y = late(1, 0);
        y.go();
        is("DROPPED", y.count(5), 1);
        is("nothing new", y.leastTarget(999), 1);
        QueueKeeper z = late(1, 1);
        z.go();
        z.go();
        is("MARKED", z.count(6), 1);
        is("nothing new", z.leastTarget(999), 1);

        promise(34, "NONE: no such e.");
        for (int e : new int[] {-1, 1000, MIN, MAX}) {
            is("leastTarget(" + e + ")", z.leastTarget(e), NONE);
        }
    }

    private static void bestQuantums() {
        promise(35, "The QUANTUM of 50, 100, .., 3000 by which, DRAINED by e 0 .. 999, WAITS of those SENT are least together, "
            + "the first;");
        is("no FRAMES: all are as good", new QueueKeeper().bestQuantum(999), 50);
        is("one BUCKET: all are as good", keeper("come 1 9 0;come 1 900 0;").bestQuantum(0), 50);
        // A frame of 100 takes 10, one of 110 takes 11: all of key 1 should go ahead of the second of 5.
        QueueKeeper x = keeper("target 99;interval 999;rate 10;quantum 50;");
        come(x, 31, 1, 100, 0);
        come(x, 2, 5, 110, 0);
        is("the most", x.bestQuantum(0), 3000);
        is("QUANTUM stays", x.count(13), 50);

        promise(35, "(DEFICITS as they are.)");
        // Key 1 has -1300 behind its first one; a QUANTUM of 1350 makes that 50, of 1300 it doesn't.
        QueueKeeper y = keeper("target 99;rate 100;quantum 200;come 1 1500 0;come 1 100 0;come 5 1500 0;come 5 1500 0;go 2;");
        is("DEFICIT of 0", y.bucket(0, 3), -1100);
        is("DEFICIT of 2", y.bucket(2, 3), -1300);
        tryQuantums("target 99;rate 100;quantum 200;come 1 1500 0;come 1 100 0;come 5 1500 0;come 5 1500 0;go 2;");
        // Some are DROPPED by the one QUANTUM, others by the other: their WAITS count for nothing.
        tryQuantums("target 1;interval 10;rate 90;limit 60;quantum 100;pass 3;" + "come 1 300 0;come 5 70 0;".repeat(9)
            + "go 3;");
        tryQuantums("target 2;interval 10;rate 60;limit 60;" + "come 1 90 0;come 5 150 0;come 6 20 0;".repeat(7));

        promise(35, "NONE: no such e.");
        for (int e : new int[] {-1, 1000, MIN, MAX}) {
            is("bestQuantum(" + e + ")", x.bestQuantum(e), NONE);
        }
    }

    private static void tryQuantums(String text) {
        for (int e : new int[] {0, 1, 4, 999}) {
            int best = 0;
            long least = Long.MAX_VALUE;
            for (int quantum = 50; quantum <= 3000; quantum += 50) {
                QueueKeeper z = keeper(text);
                long before = z.flow(1, 3) + z.flow(5, 3) + z.flow(6, 3);
                z.settle(2, quantum);
                while (z.count(2) > 0) {
                    z.go();
                    if (e > 0) {
                        z.pass(e);
                    }
                }
                long waits = z.flow(1, 3) + z.flow(5, 3) + z.flow(6, 3) - before;
                if (waits < least) {
                    least = waits;
                    best = quantum;
                }
            }
            is("tried one by one, e " + e + ", " + text, keeper(text).bestQuantum(e), best);
        }
    }

    private static void withins() {
        promise(37, "How many FRAMES were SENT whose WAIT is a to b (0 .. 9999999, b no less);");
        QueueKeeper x = keeper("limit 3;sets 1;ways 1;come 1 9 0;come 1 9 0;come 1 9 0;come 1 9 0;go 1;pass 4;go 1;pass 3;go 1;");
        // One was PUSHED OUT; WAITS 0, 4, 7.
        int[][] rows = {{0, 0, 1}, {0, 3, 1}, {0, 4, 2}, {1, 4, 1}, {4, 4, 1}, {4, 7, 2}, {5, 6, 0}, {5, 7, 1}, {7, 7, 1},
            {8, 9999999, 0}, {7, 9999999, 1}, {0, 9999999, 3}, {9999999, 9999999, 0}};
        for (int[] row : rows) {
            is("within(" + row[0] + ", " + row[1] + ")", x.within(row[0], row[1]), row[2]);
        }
        is("none SENT", keeper("come 1 9 0;").within(0, 9999999), 0);

        promise(37, "NONE: no such ones.");
        for (int[] row : new int[][] {{-1, 5}, {5, 4}, {1, 0}, {0, -1}, {0, 10000000}, {10000000, 10000000}, {-2, -1},
            {MIN, MAX}, {0, MAX}, {MAX, MAX}, {MIN, 0}}) {
            is("within(" + row[0] + ", " + row[1] + ")", x.within(row[0], row[1]), NONE);
        }
    }

    private static void middles() {
        promise(38, "Of WAITS of FRAMES that were SENT, the least first, the one in the midst (of n the n / 2-th, 0 on);");
        // SENT with WAITS 7, 0, 3, 3, 9.
        int[] waits = {7, 0, 3, 3, 9};
        int[] wants = {7, 7, 3, 3, 3};
        QueueKeeper x = keeper("sets 1;ways 1;");
        for (int i = 0; i < waits.length; i++) {
            x.come(1, 1, 0);
            if (waits[i] > 0) {
                x.pass(waits[i]);
            }
            x.go();
            is("of " + (i + 1), x.middle(), wants[i]);
        }
        QueueKeeper y = keeper("sets 1;ways 1;come 1 1 0;come 1 1 0;go 1;pass 99;pass 99;go 1;");
        is("0 and 198", y.middle(), 198);
        QueueKeeper z = keeper("sets 1;ways 1;come 1 1 0;go 1;come 1 1 0;go 1;");
        is("0 and 0", z.middle(), 0);

        promise(38, "-2: none was SENT.");
        is("a new one", new QueueKeeper().middle(), ABSENT);
        is("one stands", keeper("come 1 1 0;pass 9;").middle(), ABSENT);
        is("one was PUSHED OUT", keeper("limit 1;come 1 1 0;come 1 1 0;").middle(), ABSENT);
    }

    private static void counts() {
        promise(40, "0 NOW, 1 FRAMES that CAME, 2 that stand, 3 BYTES that stand, 4 SENT, 5 DROPPED, 6 MARKED, 7 PUSHED OUT, 8 "
            + "BUCKETS, 9 of these FREE, 10 WATCHES, 11 TARGET, 12 INTERVAL, 13 QUANTUM, 14 LIMIT, 15 SMALL, 16 bytes of the "
            + "TAPE, 17 RATE, 19 SENDERS,");
        // 0 is PUSHED OUT, 1 SENT at 5 (ABOVE 15), 2 MARKED at 15 (NEXT 24), 3 DROPPED at 24, 4 SENT, 5 stands.
        QueueKeeper x = keeper("target 4;interval 10;quantum 2000;sets 3;ways 1;limit 5;small 1;sender 7 3 2 9 1;"
            + "come 1 90 0;come 1 80 0;come 1 70 1;come 1 60 0;come 1 50 0;come 1 40 0;pass 5;go 1;pass 10;go 1;pass 9;go 1;");
        x.watch(0, 0);
        x.watch(0, 0);
        x.settle(5, 99);
        Check.feed(x, " ");
        int[] want = {24, 6, 1, 40, 3, 1, 1, 1, 3, 2, 2, 4, 10, 2000, 5, 1, 20, 99, 6, 1};
        for (int what = 0; what < 20; what++) {
            is("count(" + what + ")", x.count(what), want[what]);
        }

        promise(40, "18 how many stood at once at most (as one CAME, ahead of what was PUSHED OUT by it).");
        is("a new one", new QueueKeeper().count(18), 0);
        is("one", keeper("come 1 1 0;").count(18), 1);
        is("as LIMIT is", keeper("limit 2;come 1 1 0;come 1 1 0;").count(18), 2);
        is("ahead of what was PUSHED OUT", keeper("limit 2;come 1 1 0;come 1 1 0;come 1 1 0;").count(18), 3);
        is("at most", keeper("come 1 1 0;come 1 1 0;go 2;come 1 1 0;").count(18), 2);
        is("by a SENDER", keeper("limit 3;sender 9 1 9 9 0;run 1;").count(18), 4);

        promise(40, "NONE for another what.");
        for (int what : new int[] {-1, 20, 21, MIN, MAX}) {
            is("count(" + what + ")", x.count(what), NONE);
        }
    }
}
