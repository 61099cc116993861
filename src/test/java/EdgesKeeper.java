/** Boundary cases of the KEEPER in Terms 2 and LEAST in Terms 3, and of promises 24, 26 to 29. */
final class EdgesKeeper extends Edge {
    private static final String ONE = "target 5;interval 10;quantum 3000;sets 1;ways 1;";

    static void all() {
        beginsAnew();
        takesTheFirst();
        waitBelowTarget();
        bytesBelowSmall();
        aboveAndLate();
        droppingEnds();
        nextOrMore();
        countsAndSteps();
        marksOnce();
        dropsAndTakes();
        beginsDropping();
        countLessLast();
        sixteenIntervals();
        lastAndNext();
        laws();
        steps();
        exactRoots();
        leastWaits();
        pastOnes();
        leastAnswers();
        rootsBy();
        exacts();
        farthestOnes();
    }

    /** COUNT, LAST, DROPPING, NEXT, ABOVE, ROOT of bucket 0. */
    private static void row(String when, QueueKeeper x, int... want) {
        int[] row = new int[6];
        for (int i = 0; i < 6; i++) {
            row[i] = x.bucket(0, 5 + i);
        }
        Check.dueRow(when, row, want);
    }

    /** Frames of 100 bytes that came at 0; the first was SENT at 5, so that ABOVE is 15. */
    private static QueueKeeper above(int frames, int may) {
        QueueKeeper x = keeper(ONE);
        come(x, frames, 1, 100, may);
        x.pass(5);
        is("SENT at 5", x.go(), 0);
        return x;
    }

    /** MARKED at 15, 24, 29, so far as told; then four come, and one that waits 1 ends it. */
    private static QueueKeeper calmed(int marks) {
        QueueKeeper x = above(1 + marks, 1);
        int[] times = {15, 24, 29};
        for (int i = 0; i < marks; i++) {
            passTo(x, times[i]);
            x.go();
        }
        is("MARKED", x.count(6), marks);
        come(x, 4, 1, 100, 0);
        x.pass(1);
        x.go();
        is("not DROPPING", x.bucket(0, 7), 0);
        is("COUNT", x.bucket(0, 5), marks);
        is("LAST", x.bucket(0, 6), 1);
        return x;
    }

    private static void beginsAnew() {
        terms("The KEEPER of a BUCKET (COUNT 0, LAST 0, NEXT 0, ROOT 65535, no ABOVE, not DROPPING, when it begins "
            + "anew).");
        QueueKeeper x = above(4, 1);
        row("at 5", x, 0, 0, 0, 0, 15, 65535);
        passTo(x, 15);
        x.go();
        passTo(x, 24);
        x.go();
        x.go();
        row("at 24", x, 2, 1, 1, 29, 15, 32769);
        x.go();
        row("FREE, not yet anew", x, 2, 1, 0, 29, -2, 32769);
        x.come(1, 1, 0);
        row("anew, for the same KEY", x, 0, 0, 0, 0, -2, 65535);
    }

    private static void takesTheFirst() {
        terms("To TAKE: its first FRAME, without any: no ABOVE, not LATE.");
        QueueKeeper x = above(2, 0);
        is("ABOVE", x.bucket(0, 9), 15);
        is("its first", x.go(), 1);
        is("ABOVE stays", x.bucket(0, 9), 15);
        x.pass(90);
        is("without any", x.go(), ABSENT);
        is("no ABOVE", x.bucket(0, 9), ABSENT);
        is("not LATE: none begins to be DROPPED", x.bucket(0, 7), 0);
    }

    private static void waitBelowTarget() {
        terms("WAIT: NOW less CAME.");
        is("SENT as it came: WAIT 0", keeper("pass 9;come 1 9 0;go 1;").flow(1, 2), 0);
        is("WAIT 7", keeper("pass 9;come 1 9 0;pass 7;go 1;").flow(1, 2), 7);

        terms("Is WAIT below TARGET,");
        for (int target : new int[] {1, 2, 5, 99}) {
            for (int wait = target - 1; wait <= target; wait++) {
                QueueKeeper x = keeper("target " + target + ";interval 10;pass 7;come 1 9 0;");
                passTo(x, 7 + wait);
                x.go();
                is("ABOVE by WAIT " + wait, x.bucket(0, 9), wait == target ? 7 + wait + 10 : ABSENT);
            }
        }
        // One that waits too little ends it, though NOW is ABOVE.
        QueueKeeper y = above(1, 0);
        y.pass(6);
        y.come(1, 100, 0);
        y.pass(4);
        is("WAIT 4 at 15", y.go(), 1);
        is("no ABOVE", y.bucket(0, 9), ABSENT);
        is("none DROPPED", y.count(5), 0);
    }

    private static void bytesBelowSmall() {
        terms("or are BYTES that are left there below SMALL: no ABOVE, not LATE;");
        for (int left = 199; left <= 201; left++) {
            QueueKeeper x = keeper(ONE + "small 200;come 1 50 0;come 1 " + left + " 0;pass 9;go 1;");
            is("ABOVE with " + left + " left", x.bucket(0, 9), left < 200 ? ABSENT : 19);
        }
        QueueKeeper y = keeper(ONE + "come 1 50 0;pass 9;go 1;");
        is("0 left isn't below 0", y.bucket(0, 9), 19);
        QueueKeeper z = keeper(ONE + "small 1;come 1 50 0;pass 9;go 1;");
        is("0 left is below 1", z.bucket(0, 9), ABSENT);
        // With ABOVE: at 15 just 200 are left, so that it is LATE; 199 end it.
        for (int left = 199; left <= 200; left++) {
            QueueKeeper x = keeper(ONE + "small 200;come 1 50 0;come 1 50 0;come 1 " + left + " 0;pass 5;go 1;pass 10;");
            is("ABOVE", x.bucket(0, 9), 15);
            is("go at 15", x.go(), left == 199 ? 1 : 2);
            is("DROPPED with " + left + " left", x.count(5), left - 199);
            is("no ABOVE", x.bucket(0, 9), ABSENT);
        }
    }

    private static void aboveAndLate() {
        terms("else without ABOVE: ABOVE is NOW and INTERVAL, not LATE; else LATE, if NOW is ABOVE or more.");
        for (int interval : new int[] {10, 999}) {
            for (int early = 0; early <= 1; early++) {
                QueueKeeper x = keeper("target 5;interval " + interval + ";sets 1;ways 1;come 1 9 0;come 1 9 0;"
                    + "come 1 9 0;pass 8;go 1;");
                is("ABOVE", x.bucket(0, 9), 8 + interval);
                is("not LATE", x.count(5), 0);
                passTo(x, 8 + interval - early);
                is("go", x.go(), 2 - early);
                is("DROPPED at ABOVE less " + early, x.count(5), 1 - early);
                is("ABOVE stays", x.bucket(0, 9), 8 + interval);
            }
        }
        QueueKeeper y = above(3, 0);
        passTo(y, 500);
        is("much more than ABOVE", y.go(), 2);
        is("DROPPED", y.past(1, 0), 1);
    }

    private static void droppingEnds() {
        terms("First it TAKES a FRAME. Is it DROPPING: not LATE: it isn't any more.");
        QueueKeeper x = above(2, 1);
        passTo(x, 15);
        x.go();
        row("DROPPING", x, 1, 1, 1, 24, 15, 65535);
        // One that waits 4 at 30, though NEXT is past.
        passTo(x, 26);
        x.come(1, 100, 1);
        passTo(x, 30);
        is("go", x.go(), 2);
        row("not any more", x, 1, 1, 0, 24, -2, 65535);
        is("not MARKED", x.frame(2, 5), 0);
        // Without any, too.
        QueueKeeper y = above(2, 1);
        passTo(y, 15);
        y.go();
        y.go();
        row("none TAKEN", y, 1, 1, 0, 24, -2, 65535);
    }

    private static void nextOrMore() {
        terms("LATE: as long as it is DROPPING and NOW is NEXT or more:");
        for (int now = 23; now <= 25; now++) {
            QueueKeeper x = above(5, 0);
            passTo(x, 15);
            is("DROPS 1", x.go(), 2);
            passTo(x, now);
            is("go at " + now, x.go(), now < 24 ? 3 : 4);
            is("DROPPED at " + now, x.count(5), now < 24 ? 1 : 2);
            is("DROPPING", x.bucket(0, 7), 1);
            is("COUNT", x.bucket(0, 5), now < 24 ? 1 : 2);
        }
        // At 33 NEXT 24, 29 are past, 34 isn't: two are DROPPED; at 34 a third one.
        for (int now = 33; now <= 34; now++) {
            QueueKeeper x = above(9, 0);
            passTo(x, 15);
            x.go();
            passTo(x, now);
            is("go at " + now, x.go(), now == 33 ? 5 : 6);
            is("DROPPED", x.count(5), now == 33 ? 3 : 4);
        }
    }

    private static void countsAndSteps() {
        terms("COUNT is 1 more (999 at most), a STEP of ROOT;");
        // 200 FRAMES don't reach 999; ROOT goes along with rootBy as far as they do.
        QueueKeeper x = keeper("target 1;interval 10;quantum 3000;limit 60;sets 1;ways 1;");
        come(x, 60, 1, 10, 1);
        x.pass(1);
        x.go();
        passTo(x, 900);
        int next = 0;
        for (int count = 1; count <= 58; count++) {
            is("MARKED", x.go(), count);
            is("COUNT", x.bucket(0, 5), count);
            is("ROOT by COUNT " + count, x.bucket(0, 10), x.rootBy(count));
            int from = count == 1 ? 900 : next;
            next = from + 10 * x.rootBy(count) / 65536;
            is("NEXT by COUNT " + count, x.bucket(0, 8), next);
            if (next > x.count(0)) {
                passTo(x, next);
            }
        }
    }

    private static void marksOnce() {
        terms("one that MAY is MARKED (once is enough), NEXT becomes LAW of NEXT, and that is all;");
        QueueKeeper x = above(4, 1);
        passTo(x, 15);
        is("MARKED", x.go(), 1);
        passTo(x, 500);
        is("go, much more than NEXT", x.go(), 2);
        row("COUNT is 1 more, not many", x, 2, 1, 1, 29, 15, 32769);
        is("MARKED", x.frame(2, 5), 1);
        is("none DROPPED", x.count(5), 0);
        is("two MARKED", x.count(6), 2);
        is("go", x.go(), 3);
        row("NEXT by NEXT, not by NOW", x, 3, 1, 1, 34, 15, 36864);
    }

    private static void dropsAndTakes() {
        terms("another one is DROPPED, another one TAKEN: not LATE: it isn't DROPPING any more; LATE: NEXT becomes LAW of "
            + "NEXT.");
        // At 24 frame 3 is DROPPED; the next one came at 20: WAIT 4.
        for (int came = 19; came <= 20; came++) {
            QueueKeeper x = above(4, 0);
            passTo(x, 15);
            is("DROPS 1", x.go(), 2);
            passTo(x, came);
            come(x, 2, 1, 100, 0);
            passTo(x, 24);
            is("DROPS 3", x.go(), 4);
            if (came == 20) {
                row("not LATE: NEXT stays", x, 2, 1, 0, 24, -2, 32769);
            } else {
                row("LATE", x, 2, 1, 1, 29, 15, 32769);
            }
        }
        // None is left: not LATE.
        QueueKeeper y = above(4, 0);
        passTo(y, 15);
        y.go();
        passTo(y, 24);
        is("the last one is DROPPED", y.go(), ABSENT);
        row("none left", y, 2, 1, 0, 24, -2, 32769);
        // Behind a DROPPED one the next one is MARKED, as NOW is NEXT still.
        QueueKeeper z = keeper(ONE + "come 1 9 0;come 1 9 0;come 1 9 0;come 1 9 0;come 1 9 1;come 1 9 0;pass 5;go 1;"
            + "pass 10;go 1;");
        passTo(z, 29);
        is("go at 29", z.go(), 4);
        is("3 is DROPPED", z.frame(3, 6), 2);
        is("4 is MARKED", z.frame(4, 5), 1);
        row("both count", z, 3, 1, 1, 34, 15, 36864);
    }

    private static void beginsDropping() {
        terms("Is it not DROPPING, but LATE: it is MARKED, if it MAY, else DROPPED, and another one TAKEN (LATE or not); it "
            + "is DROPPING then;");
        QueueKeeper x = above(3, 1);
        passTo(x, 15);
        is("MARKED and SENT", x.go(), 1);
        is("MARKED", x.frame(1, 5), 1);
        is("none other TAKEN", x.count(2), 1);
        is("DROPPING", x.bucket(0, 7), 1);
        QueueKeeper y = above(4, 0);
        passTo(y, 500);
        is("one only is DROPPED", y.go(), 2);
        is("2 was LATE", y.count(5), 1);
        row("DROPPING", y, 1, 1, 1, 509, 15, 65535);
        // The other one came at 14: not LATE, DROPPING all the same.
        QueueKeeper z = above(2, 0);
        passTo(z, 14);
        z.come(1, 100, 0);
        z.pass(1);
        is("go", z.go(), 2);
        row("DROPPING, without ABOVE", z, 1, 1, 1, 24, -2, 65535);
        // The other one MAY, and is not MARKED as well.
        QueueKeeper v = above(2, 0);
        v.come(1, 100, 1);
        passTo(v, 30);
        is("go", v.go(), 2);
        is("WAIT 25, not MARKED", v.frame(2, 5), 0);
        // There is no other one.
        QueueKeeper w = above(2, 0);
        passTo(w, 15);
        is("go", w.go(), ABSENT);
        row("DROPPING, FREE", w, 1, 1, 1, 24, -2, 65535);
    }

    private static void countLessLast() {
        terms("COUNT becomes COUNT less LAST, with a STEP of ROOT, if that is above 1 and NOW less NEXT below 16 times "
            + "INTERVAL; else 1, ROOT 65535;");
        // COUNT less LAST is 0, 1, 2; the fresh ones came at 15, 24, 29.
        int[] came = {15, 24, 29};
        for (int marks = 1; marks <= 3; marks++) {
            QueueKeeper x = calmed(marks);
            int at = came[marks - 1];
            passTo(x, at + 5);
            x.go();
            is("ABOVE", x.bucket(0, 9), at + 15);
            passTo(x, at + 15);
            x.go();
            is("DROPPED", x.count(5), 1);
            if (marks < 3) {
                row("COUNT less LAST is " + (marks - 1), x, 1, 1, 1, at + 15 + 9, at + 15, 65535);
            } else {
                row("COUNT less LAST is 2", x, 2, 2, 1, at + 15 + 6, at + 15, 43632);
            }
        }
    }

    private static void sixteenIntervals() {
        terms("if that is above 1 and NOW less NEXT below 16 times INTERVAL;");
        // NEXT is 34: 193 is 159 behind it, 194 is 160.
        for (int now = 193; now <= 194; now++) {
            QueueKeeper x = calmed(3);
            passTo(x, 34);
            x.go();
            is("NEXT", x.bucket(0, 8), 34);
            passTo(x, now);
            x.go();
            if (now == 193) {
                row("below", x, 2, 2, 1, 193 + 6, 44, 43632);
            } else {
                row("not below", x, 1, 1, 1, 194 + 9, 44, 65535);
            }
        }
        // 16 times what INTERVAL is then.
        QueueKeeper y = calmed(3);
        passTo(y, 34);
        y.go();
        y.settle(1, 11);
        passTo(y, 194);
        y.go();
        is("COUNT", y.bucket(0, 5), 2);
    }

    private static void lastAndNext() {
        terms("LAST is COUNT, NEXT is LAW of NOW. (One thing or the other.) What it TOOK last is its FRAME.");
        QueueKeeper x = calmed(3);
        passTo(x, 34);
        x.go();
        passTo(x, 60);
        is("what it TOOK last", x.go(), 7);
        row("at 60", x, 2, 2, 1, 66, 44, 43632);
        // DROPPING and LATE ahead of NEXT: one thing, and nothing of the other.
        QueueKeeper y = above(5, 0);
        passTo(y, 15);
        is("go", y.go(), 2);
        is("LATE, but ahead of NEXT", y.go(), 3);
        row("nothing more", y, 1, 1, 1, 24, 15, 65535);
    }

    private static void laws() {
        terms("LAW of t: t and INTERVAL times ROOT by 65536, downwards.");
        int[] intervals = {10, 11, 100, 999};
        for (int interval : intervals) {
            QueueKeeper x = keeper("target 5;interval " + interval + ";sets 1;ways 1;come 1 9 1;come 1 9 1;come 1 9 1;"
                + "pass 5;go 1;");
            passTo(x, 5 + interval);
            x.go();
            int next = 5 + interval + interval - 1;
            is("NEXT by ROOT 65535, INTERVAL " + interval, x.bucket(0, 8), next);
            passTo(x, next);
            x.go();
            is("NEXT by ROOT 32769", x.bucket(0, 8), next + interval / 2);
        }
    }

    private static void steps() {
        terms("STEP of ROOT: q is ROOT times ROOT by 65536, downwards; ROOT becomes ROOT times (196608 less COUNT times q) "
            + "by 131072, downwards, 1 at least, 65535 at most.");
        QueueKeeper x = new QueueKeeper();
        // 65535 squared by 65536 is 65534 and a bit; 65535 times 65540 by 131072 is 32769 and a half.
        is("by COUNT 2", x.rootBy(2), 32769);
        // q is 16385 (by 16385.0); 32769 times 147453 by 131072 is 36864.2 or so.
        is("by COUNT 3", x.rootBy(3), 36864);
        long root = 65535;
        for (int count = 2; count <= 400; count++) {
            long q = root * root / 65536;
            root = Math.max(1, Math.min(65535, Math.floorDiv(root * (196608 - count * q), 131072L)));
            is("by COUNT " + count, x.rootBy(count), root);
        }
    }

    private static void exactRoots() {
        terms("EXACT of COUNT: 65536 by its root, downwards (65535 at most).");
        QueueKeeper x = new QueueKeeper();
        is("65535 at most", x.exact(1), 65535);
        is("46340.95", x.exact(2), 46340);
        is("37837.2", x.exact(3), 37837);
        for (int root = 2; root <= 31; root++) {
            is("of " + root * root, x.exact(root * root), 65536 / root);
        }
        for (int n = 2; n <= 400; n++) {
            long r = x.exact(n);
            is("not too much of " + n, r * r * n <= 1L << 32 ? 1 : 0, 1);
            is("not too little of " + n, (r + 1) * (r + 1) * n > 1L << 32 ? 1 : 0, 1);
        }
    }

    private static void leastWaits() {
        terms("LEAST of a BUCKET: the least WAIT of FRAMES that were TAKEN of it since it began anew, less than INTERVAL "
            + "ago.");
        QueueKeeper x = keeper(ONE + "come 1 9 0;pass 2;go 1;come 1 9 0;pass 4;go 1;");
        is("2 and 4", x.least(0), 2);
        passTo(x, 11);
        is("9 ago", x.least(0), 2);
        passTo(x, 12);
        is("10 ago", x.least(0), 4);
        passTo(x, 15);
        is("9 ago", x.least(0), 4);
        passTo(x, 16);
        is("10 ago", x.least(0), ABSENT);
        // DROPPED ones were TAKEN, PUSHED OUT ones not.
        QueueKeeper y = above(2, 0);
        passTo(y, 15);
        y.go();
        is("DROPPED at 15", y.least(0), 15);
        is("5 was TAKEN 10 ago", y.settle(1, 11), 10);
        is("less than 11 ago", y.least(0), 5);
        y.come(1, 9, 0);
        is("it began anew", y.least(0), ABSENT);
        y.go();
        is("a WAIT of 0", y.least(0), 0);
        QueueKeeper z = keeper("limit 1;sets 1;ways 1;come 1 5 0;pass 2;come 1 5 0;");
        is("PUSHED OUT", z.least(0), ABSENT);
        // Each BUCKET has its own.
        QueueKeeper w = keeper("come 1 1 0;come 5 1 0;pass 1;go 1;pass 1;go 1;");
        is("of 0", w.least(0), 1);
        is("of 2", w.least(2), 2);
        is("of 1", w.least(1), ABSENT);
    }

    private static void pastOnes() {
        promise(24, "The i-th FRAME (0 on) of those that were SENT (what 0), DROPPED (1), MARKED (2), PUSHED OUT (3), as it "
            + "came to be;");
        // Key 1 is in bucket 0 and waits for its DEFICIT, so that 2 is SENT ahead of 1.
        QueueKeeper x = keeper("quantum 100;come 1 100 0;come 1 9 0;come 5 9 0;go 3;");
        Check.dueRow("SENT", new int[] {x.past(0, 0), x.past(0, 1), x.past(0, 2), x.past(0, 3)}, 0, 2, 1, -2);
        QueueKeeper y = keeper("limit 2;come 5 3 0;come 1 9 0;come 1 9 0;come 5 30 0;");
        Check.dueRow("PUSHED OUT", new int[] {y.past(3, 0), y.past(3, 1), y.past(3, 2)}, 1, 0, -2);
        QueueKeeper z = above(9, 0);
        passTo(z, 15);
        z.go();
        passTo(z, 34);
        z.go();
        Check.dueRow("DROPPED", new int[] {z.past(1, 0), z.past(1, 1), z.past(1, 2), z.past(1, 3), z.past(1, 4)},
            1, 3, 4, 5, -2);
        QueueKeeper w = calmed(3);
        Check.dueRow("MARKED", new int[] {w.past(2, 0), w.past(2, 1), w.past(2, 2), w.past(2, 3)}, 1, 2, 3, -2);

        promise(24, "-2: there are not so many;");
        for (int what = 0; what < 4; what++) {
            is("past(" + what + ", 0) of a new one", new QueueKeeper().past(what, 0), ABSENT);
            is("past(" + what + ", MAX)", x.past(what, MAX), ABSENT);
            is("past(" + what + ", 200)", x.past(what, 200), ABSENT);
        }
        QueueKeeper v = keeper("limit 1;sets 1;ways 1;");
        come(v, 200, 1, 1, 0);
        v.go();
        is("the 199th PUSHED OUT", v.past(3, 198), 198);
        is("no 200th", v.past(3, 199), ABSENT);
        is("the one SENT", v.past(0, 0), 199);

        promise(24, "NONE: no such ones.");
        for (int[] row : new int[][] {{-1, 0}, {4, 0}, {MIN, 0}, {MAX, 0}, {0, -1}, {3, MIN}, {4, -1}}) {
            is("past(" + row[0] + ", " + row[1] + ")", x.past(row[0], row[1]), NONE);
        }
    }

    private static void leastAnswers() {
        promise(26, "LEAST of a BUCKET;");
        QueueKeeper x = keeper("come 5 1 0;pass 3;go 1;");
        is("least(2)", x.least(2), 3);

        promise(26, "-2: there is none;");
        is("least(0)", x.least(0), ABSENT);
        is("least(3)", x.least(3), ABSENT);
        is("of one that stands", keeper("come 1 1 0;pass 9;").least(0), ABSENT);

        promise(26, "NONE: no such BUCKET.");
        for (int k : new int[] {-1, 4, 15, 16, MIN, MAX}) {
            is("least(" + k + ")", x.least(k), NONE);
        }
        is("least(1) of one", keeper("sets 1;ways 1;").least(1), NONE);
        is("least(15) of sixteen", keeper("sets 4;ways 4;").least(15), ABSENT);
    }

    private static void rootsBy() {
        promise(27, "ROOT behind STEPS by COUNT 2, 3, .., n 1 .. 999, from 65535 on (n 1: 65535);");
        QueueKeeper x = new QueueKeeper();
        is("rootBy(1)", x.rootBy(1), 65535);
        is("rootBy(2)", x.rootBy(2), 32769);
        int last = x.rootBy(999);
        is("rootBy(999) is near 2073", Math.abs(last - 2073) < 9 ? 1 : 0, 1);
        long root = 65535;
        for (int count = 2; count <= 999; count++) {
            root = root * (196608 - count * (root * root / 65536)) / 131072;
        }
        is("rootBy(999)", last, root);

        promise(27, "NONE: no such n.");
        for (int n : new int[] {0, -1, 1000, MIN, MAX}) {
            is("rootBy(" + n + ")", x.rootBy(n), NONE);
        }
    }

    private static void exacts() {
        promise(28, "EXACT of a COUNT 1 .. 999;");
        QueueKeeper x = new QueueKeeper();
        is("exact(1)", x.exact(1), 65535);
        is("exact(999)", x.exact(999), 2073);

        promise(28, "NONE: no such one.");
        for (int n : new int[] {0, -1, 1000, MIN, MAX}) {
            is("exact(" + n + ")", x.exact(n), NONE);
        }
    }

    private static void farthestOnes() {
        promise(29, "Of n 1 .. 999 the first by which rootBy() is farthest from exact(), from 1 to n (what 0), how far (1);");
        QueueKeeper x = new QueueKeeper();
        is("farthest(1, 0)", x.farthest(1, 0), 1);
        is("farthest(1, 1)", x.farthest(1, 1), 0);
        is("farthest(2, 0)", x.farthest(2, 0), 2);
        is("farthest(2, 1)", x.farthest(2, 1), 46340 - 32769);
        is("3 is nearer", x.farthest(3, 0), 2);
        is("farthest(999, 0)", x.farthest(999, 0), 2);
        is("farthest(999, 1)", x.farthest(999, 1), 46340 - 32769);

        promise(29, "NONE: no such ones.");
        for (int[] row : new int[][] {{0, 0}, {-1, 0}, {1000, 0}, {MIN, 1}, {MAX, 1}, {5, -1}, {5, 2}, {5, MIN},
            {5, MAX}, {0, 2}}) {
            is("farthest(" + row[0] + ", " + row[1] + ")", x.farthest(row[0], row[1]), NONE);
        }
    }
}
