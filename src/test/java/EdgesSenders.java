/** Boundary cases of the SENDER and the TICK in Terms 2, and of promises 8 to 14. */
final class EdgesSenders extends Edge {
    /** One bucket; frames are SENT as they stand, none is DROPPED. */
    private static final String CALM = "target 99;quantum 3000;sets 1;ways 1;";

    static void all() {
        atFirst();
        hearsOfSent();
        hearsOfDropped();
        hearsOfPushedOut();
        hearsOfItsOwnOnly();
        windowGrows();
        cutsAgain();
        halves();
        markedOnes();
        hearsInOrder();
        windowsLetCome();
        justBelowAHundred();
        twoHundredFrames();
        sendersByNumbers();
        oneIsServed();
        runs();
        senderAnswers();
        whoseOnes();
        ifRuns();
        firstCuts();
        leastLimits();
        bestTargets();
    }

    private static void sender(String when, QueueKeeper x, int window, int out, int cuts, int last, int heard) {
        int[] row = {x.sender(0, 2), x.sender(0, 5), x.sender(0, 6), x.sender(0, 7), x.sender(0, 8)};
        Check.dueRow(when, row, window, out, cuts, last, heard);
    }

    private static void atFirst() {
        terms("A SENDER has a WINDOW in hundredths, OUT (0 at first): how many FRAMES of its own came that it hasn't HEARD "
            + "of, CUT: when it was CUT last (none at first).");
        QueueKeeper x = keeper(CALM + "sender 9 10 3 4 0;");
        sender("at first", x, 300, 0, 0, -2, 0);
        x.run(1);
        sender("three came", x, 300, 3, 0, -2, 0);
        x.run(3);
        sender("all are SENT, it HEARD of none", x, 300, 3, 0, -2, 0);
        x.run(1);
        sender("it HEARD of one, and one came", x, 333, 3, 0, -2, 1);
    }

    private static void hearsOfSent() {
        terms("It HEARS of one of its own FRAMES DELAY behind what became of that (SENT, DROPPED, PUSHED OUT): OUT is 1 "
            + "less;");
        for (int delay : new int[] {1, 2, 99}) {
            QueueKeeper x = keeper(CALM + "sender 9 10 1 " + delay + " 0;run 1;");
            is("SENT at 0", x.frame(0, 7), 0);
            if (delay > 1) {
                x.run(delay - 1);
            }
            sender("the TICK at " + (delay - 1), x, 100, 1, 0, -2, 0);
            x.run(1);
            // 1 less, then two come by 200.
            sender("the TICK at " + delay, x, 200, 2, 0, -2, 1);
        }
        // With a RATE it was SENT ahead of what that takes.
        QueueKeeper y = keeper(CALM + "rate 1;sender 9 10 1 12 0;run 1;");
        is("now", y.count(0), 11);
        y.run(1);
        is("at 11", y.sender(0, 8), 0);
        y.run(1);
        is("at 12", y.sender(0, 8), 1);
    }

    private static void hearsOfDropped() {
        terms("(SENT, DROPPED, PUSHED OUT)");
        // Twenty come at 0; ABOVE is 11 by the one at 1; frame 11 is DROPPED at 11.
        QueueKeeper x = keeper("target 1;interval 10;quantum 3000;sets 1;ways 1;sender 9 10 20 2 0;run 12;");
        is("DROPPED", x.past(1, 0), 11);
        is("at", x.frame(11, 7), 11);
        x.run(1);
        is("not CUT at 12", x.sender(0, 6), 0);
        x.run(1);
        // Then 12, SENT at 11: 10 more.
        is("CUT at 13", x.sender(0, 7), 13);
        is("half and 10", x.sender(0, 2), 1010);
    }

    private static void hearsOfPushedOut() {
        terms("(SENT, DROPPED, PUSHED OUT): OUT is 1 less;");
        QueueKeeper x = keeper("limit 1;sets 1;ways 1;sender 9 100 4 3 0;run 3;");
        sender("three PUSHED OUT, one SENT, all at 0", x, 400, 4, 0, -2, 0);
        x.run(1);
        // CUT once, as it HEARS of the first; the one SENT: 50 more; two come.
        sender("at 3", x, 250, 2, 1, 3, 4);
    }

    private static void hearsOfItsOwnOnly() {
        terms("It HEARS of one of its own FRAMES");
        QueueKeeper x = keeper(CALM + "limit 60;sender 9 10 1 1 0;sender 8 10 1 1 0;come 9 10 0;");
        x.run(1);
        is("the line's is SENT", x.past(0, 0), 0);
        x.run(1);
        is("not its own", x.sender(0, 8), 0);
        x.run(1);
        is("its own, SENT at 1", x.sender(0, 8), 1);
        is("the other one HEARD of none", x.sender(1, 8), 0);
        x.run(1);
        is("the other one's own, SENT at 2", x.sender(1, 8), 1);
        is("still one", x.sender(0, 8), 1);
    }

    private static void windowGrows() {
        terms("was it SENT and not MARKED, WINDOW is 10000 by itself, downwards, more, 2000 at most;");
        QueueKeeper x = keeper(CALM + "sender 9 10 1 1 0;run 1;");
        int[] windows = {200, 250, 290, 324, 354, 382, 408, 432, 455, 476};
        for (int window : windows) {
            x.run(1);
            is("WINDOW", x.sender(0, 2), window);
        }
        is("10000 by 137 is just below 73", grownFrom137(), 137 + 72);
        QueueKeeper y = keeper(CALM + "sender 9 10 20 1 0;run 5;");
        is("HEARD of four", y.sender(0, 8), 4);
        is("2000 at most", y.sender(0, 2), 2000);
        QueueKeeper z = keeper(CALM + "limit 60;sender 9 10 19 1 0;run 21;");
        is("1900 and 20 times 5", z.sender(0, 2), 2000);
        is("HEARD", z.sender(0, 8), 20);
        z.run(1);
        is("no more", z.sender(0, 2), 2000);
        is("twenty are OUT", z.sender(0, 5), 20);
    }

    /** Key 8 is SERVED first, key 9 has the most BYTES: three of 9 are PUSHED OUT, then one is SENT. */
    private static int grownFrom137() {
        QueueKeeper x = keeper("target 99;quantum 3000;sets 1;ways 2;limit 60;sender 9 100 11 1 0;"
            + "come 8 1 0;".repeat(6) + "run 1;");
        int[] windows = {1100, 550, 275};
        for (int window : windows) {
            x.settle(3, x.count(2));
            x.come(8, 1, 0);
            x.settle(3, 60);
            x.run(1);
            is("half", x.sender(0, 2), window);
        }
        x.run(1);
        is("half of 275, downwards", x.sender(0, 2), 137);
        while (x.flow(9, 0) == 0) {
            x.go();
        }
        x.pass(1);
        x.run(1);
        is("HEARD", x.sender(0, 8), 4);
        return x.sender(0, 2);
    }

    /** Five came, 0 was SENT at 0; frames of others stand behind, so that one more pushes 1 out. */
    private static QueueKeeper pushable() {
        QueueKeeper x = keeper(CALM + "limit 5;sender 9 100 5 3 0;run 1;");
        x.come(9, 1, 0);
        x.come(9, 1, 0);
        is("1 is PUSHED OUT at 1", x.frame(1, 7), 1);
        return x;
    }

    private static void cutsAgain() {
        terms("else, if it wasn't CUT less than DELAY ago, it is CUT:");
        QueueKeeper x = pushable();
        x.pass(2);
        x.come(9, 1, 0);
        is("2 is PUSHED OUT at 3", x.frame(2, 7), 3);
        x.pass(1);
        x.run(1);
        sender("CUT at 4", x, 260, 3, 1, 4, 2);
        x.pass(1);
        x.run(1);
        sender("at 6 it was CUT 2 ago", x, 260, 2, 1, 4, 3);

        QueueKeeper y = pushable();
        y.pass(3);
        y.come(9, 1, 0);
        is("2 is PUSHED OUT at 4", y.frame(2, 7), 4);
        y.run(1);
        sender("CUT at 4", y, 260, 3, 1, 4, 2);
        y.pass(2);
        y.run(1);
        // 3 was SENT at 4: 10000 by 130 more.
        sender("at 7 it was CUT 3 ago", y, 206, 2, 2, 7, 4);
    }

    private static void halves() {
        terms("WINDOW is half of itself, downwards, 100 at least.");
        // One SENT, then one PUSHED OUT: 333 becomes 166.
        QueueKeeper x = keeper(CALM + "limit 3;sender 9 100 3 3 0;run 1;");
        x.come(9, 1, 0);
        x.come(9, 1, 0);
        x.pass(3);
        x.run(1);
        sender("half of 333", x, 166, 1, 1, 4, 2);
        // 200 becomes 100; so does 100, and that is to be CUT all the same.
        QueueKeeper y = keeper("limit 1;sets 1;ways 1;sender 9 100 2 9 0;run 1;");
        y.pass(8);
        y.run(1);
        // 0 was PUSHED OUT as 1 came, then 1 was SENT: 100 and 100.
        sender("half of 200, then 100 more", y, 200, 2, 1, 9, 2);
        QueueKeeper w = keeper("limit 1;sets 1;ways 1;sender 9 100 1 1 0;sender 8 1 1 1 0;run 1;");
        is("0 was PUSHED OUT", w.past(3, 0), 0);
        w.run(1);
        is("half of 100", w.sender(0, 2), 100);
        is("CUT", w.sender(0, 6), 1);
        is("at", w.sender(0, 7), 1);
    }

    private static void markedOnes() {
        terms("was it SENT and not MARKED,");
        QueueKeeper x = keeper("target 1;interval 10;quantum 3000;sets 1;ways 1;sender 9 10 20 2 1;run 13;");
        is("MARKED", x.past(2, 0), 11);
        is("SENT", x.frame(11, 6), 1);
        is("not CUT so far", x.sender(0, 6), 0);
        x.run(1);
        sender("CUT at 13", x, 1000, 19, 1, 13, 12);
    }

    private static void hearsInOrder() {
        terms("A TICK: SENDERS by numbers HEAR of all that they hadn't HEARD of, of which it is time by NOW, in the order in "
            + "which it came to be;");
        // SENT, then PUSHED OUT: 500, 520, 260. The other way round: 500, 250, 290.
        QueueKeeper x = pushable();
        passTo(x, 9);
        x.run(1);
        is("SENT first", x.sender(0, 2), 260);
        QueueKeeper y = keeper(CALM + "limit 4;sender 9 100 5 3 0;run 1;");
        is("0 is PUSHED OUT", y.past(3, 0), 0);
        is("1 is SENT", y.past(0, 0), 1);
        passTo(y, 3);
        y.run(1);
        is("PUSHED OUT first", y.sender(0, 2), 290);
        // All of which it is time, and only these: SENT at 1, 2, 3; DELAY 2; at 4.
        QueueKeeper z = keeper(CALM + "sender 9 10 4 2 0;run 1;");
        z.go();
        z.pass(1);
        z.go();
        z.pass(1);
        z.go();
        z.pass(1);
        is("now", z.count(0), 4);
        z.run(1);
        is("those at 0, 1, 2", z.sender(0, 8), 3);
        is("WINDOW", z.sender(0, 2), 400 + 25 + 23 + 22);
        z.run(1);
        is("that at 3, each once", z.sender(0, 8), 4);
    }

    private static void windowsLetCome() {
        terms("then SENDERS by numbers, as long as OUT times 100 is less than WINDOW less 99,");
        for (int window = 1; window <= 20; window++) {
            QueueKeeper x = keeper(CALM + "sender 9 10 " + window + " 9 0;");
            x.run(1);
            is("so many came by " + window, x.count(1), window);
            is("OUT", x.sender(0, 5), window);
            x.run(1);
            is("and no more", x.count(1), window);
        }
    }

    private static void justBelowAHundred() {
        terms("as long as OUT times 100 is less than WINDOW less 99,");
        // 800, SENT 812, SENT 824, PUSHED OUT 412, SENT 436, 458, 479, 499.
        QueueKeeper x = keeper(CALM + "limit 60;sender 9 100 8 1 0;run 1;");
        x.go();
        x.settle(3, 6);
        x.come(9, 100, 0);
        is("2 is PUSHED OUT", x.past(3, 0), 2);
        x.settle(3, 60);
        for (int f = 3; f <= 6; f++) {
            is("go", x.go(), f);
        }
        x.pass(1);
        x.run(1);
        sender("4 are OUT, not 5", x, 499, 4, 1, 2, 7);
        is("three came", x.count(1), 12);
    }

    private static void twoHundredFrames() {
        terms("and FRAMES aren't 200: a FRAME of its own COMES (KEY, BYTES, MAY);");
        QueueKeeper x = keeper("limit 60;sets 1;ways 1;sender 9 10 5 9 1;");
        come(x, 197, 1, 1, 0);
        x.run(1);
        is("three of five came", x.sender(0, 5), 3);
        is("200", x.count(1), 200);
        Check.dueRow("the last one", Check.frameRow(x, 199), 9, 10, 1, 0, 0, 0, 0, -2);
        is("its own", x.whose(199), 0);
        x.run(1);
        is("still 200", x.count(1), 200);
        is("still three", x.sender(0, 5), 3);
        is("come", x.come(1, 1, 0), ABSENT);
        QueueKeeper y = keeper("limit 60;sender 9 10 5 9 1;sender 8 10 5 9 1;");
        come(y, 195, 1, 1, 0);
        y.run(1);
        is("all of the first", y.sender(0, 5), 5);
        is("none of the second", y.sender(1, 5), 0);
    }

    private static void sendersByNumbers() {
        terms("then SENDERS by numbers,");
        QueueKeeper x = keeper("sender 7 30 2 9 1;sender 4 20 3 9 0;sender 5 10 1 9 1;sender 1 9 2 9 0;run 1;");
        int[] whose = new int[9];
        for (int f = 0; f < 9; f++) {
            whose[f] = x.whose(f);
        }
        Check.dueRow("whose", whose, 0, 0, 1, 1, 1, 2, 3, 3, NONE);
        Check.dueRow("KEY, BYTES, MAY", new int[] {x.frame(2, 0), x.frame(2, 1), x.frame(2, 2)}, 4, 20, 0);
        Check.dueRow("KEY, BYTES, MAY", new int[] {x.frame(5, 0), x.frame(5, 1), x.frame(5, 2)}, 5, 10, 1);
    }

    private static void oneIsServed() {
        terms("then one is SERVED; then NOW is 1 more.");
        QueueKeeper x = keeper("come 1 9 0;come 1 9 0;run 1;");
        is("one", x.count(4), 1);
        is("at 0", x.frame(0, 7), 0);
        is("NOW", x.count(0), 1);
        x.run(1);
        is("at 1", x.frame(1, 7), 1);
        x.run(1);
        is("none, but NOW is more", x.count(0), 3);
        is("NOW with RATE", keeper("rate 2;come 1 9 0;run 2;").count(0), 5 + 1 + 1);
        // What comes in a TICK may be SERVED in it.
        is("SENT in its TICK", keeper("sender 9 9 1 9 0;run 1;").frame(0, 6), 1);
    }

    private static void runs() {
        promise(8, "n 1 .. 200 TICKS: how many FRAMES were SENT in them;");
        QueueKeeper x = keeper(CALM + "sender 9 1 20 1 0;");
        is("run(1)", x.run(1), 1);
        is("NOW", x.count(0), 1);
        is("run(200): of 200 FRAMES 199 are left", x.run(200), 199);
        is("NOW", x.count(0), 201);
        is("none is left", x.run(200), 0);
        is("of a new one", new QueueKeeper().run(200), 0);

        promise(8, "NONE: no such n.");
        for (int n : new int[] {0, -1, 201, MIN, MAX}) {
            is("run(" + n + ")", x.run(n), NONE);
        }
        is("NOW stays", x.count(0), 401);
    }

    private static void senderAnswers() {
        promise(9, "Of a SENDER, what 0 KEY, 1 BYTES, 2 WINDOW, 3 DELAY, 4 MAY, 5 OUT, 6 how often it was CUT, 7 when last "
            + "(-2: never), 8 of how many FRAMES it HEARD;");
        QueueKeeper x = keeper("limit 1;sets 1;ways 1;sender 9 100 4 3 1;");
        Check.dueRow("never CUT", Check.senderRow(x, 0), 9, 100, 400, 3, 1, 0, 0, -2, 0);
        x.run(4);
        Check.dueRow("CUT at 3", Check.senderRow(x, 0), 9, 100, 250, 3, 1, 2, 1, 3, 4);
        x.run(3);
        Check.dueRow("CUT at 6", Check.senderRow(x, 0), 9, 100, 205, 3, 1, 2, 2, 6, 6);

        promise(9, "NONE: no such ones.");
        for (int[] row : new int[][] {{-1, 0}, {1, 0}, {4, 0}, {MIN, 0}, {MAX, 0}, {0, -1}, {0, 9}, {0, MIN}, {0, MAX},
            {1, 9}}) {
            is("sender(" + row[0] + ", " + row[1] + ")", x.sender(row[0], row[1]), NONE);
        }
        QueueKeeper y = keeper("sender 1 1 1 1 0;sender 2 1 1 1 0;sender 3 1 1 1 0;sender 4 1 1 1 0;");
        is("the fourth", y.sender(3, 0), 4);
        is("no fifth", y.sender(4, 0), NONE);
        is("without any", new QueueKeeper().sender(0, 0), NONE);
        is("of another text", Check.text(y, "sender 5 1 1 1 0;"), 1);
        is("its only one", y.sender(0, 0), 5);
        is("no second", y.sender(1, 0), NONE);
    }

    private static void whoseOnes() {
        promise(10, "The SENDER whose own a FRAME is;");
        QueueKeeper x = keeper("sender 9 10 1 9 0;sender 8 10 1 9 0;come 9 10 0;run 1;");
        is("whose(1)", x.whose(1), 0);
        is("whose(2)", x.whose(2), 1);

        promise(10, "-2: nobody's;");
        is("though of its KEY", x.whose(0), ABSENT);
        x.come(8, 10, 0);
        is("a call's", x.whose(3), ABSENT);

        promise(10, "NONE: no such FRAME.");
        for (int f : new int[] {-1, 4, 199, 200, MIN, MAX}) {
            is("whose(" + f + ")", x.whose(f), NONE);
        }
    }

    private static void ifRuns() {
        promise(11, "Were n 1 .. 200 TICKS done, what 0 how many FRAMES would be SENT in them, 1 DROPPED, 2 MARKED, 3 PUSHED "
            + "OUT, 4 NOW then, 5 WINDOWS together then;");
        String[] texts = {"target 1;interval 10;limit 9;sets 1;ways 2;sender 9 300 12 2 0;sender 4 90 9 3 1;run 30;",
            "rate 30;target 1;interval 10;limit 5;sender 9 300 12 2 1;sender 5 200 3 3 0;sender 6 1 20 1 0;run 9;",
            "come 1 9 0;pass 9;come 1 9 0;", "sets 1;ways 1;sender 9 10 3 1 0;run 1;", ""};
        for (String text : texts) {
            for (int n : new int[] {1, 2, 50, 200}) {
                QueueKeeper x = keeper(text);
                QueueKeeper y = keeper(text);
                int[] before = {y.count(4), y.count(5), y.count(6), y.count(7)};
                y.run(n);
                for (int what = 0; what < 4; what++) {
                    is("ifRun(" + n + ", " + what + ")", x.ifRun(n, what), y.count(4 + what) - before[what]);
                }
                is("ifRun(" + n + ", 4)", x.ifRun(n, 4), y.count(0));
                int windows = 0;
                for (int k = 0; k < y.count(19); k++) {
                    windows += y.sender(k, 2);
                }
                is("ifRun(" + n + ", 5)", x.ifRun(n, 5), windows);
                same("asked", x, keeper(text));
            }
        }

        promise(11, "NONE: no such ones.");
        QueueKeeper z = keeper(texts[0]);
        for (int[] row : new int[][] {{0, 0}, {-1, 0}, {201, 0}, {MIN, 4}, {MAX, 5}, {1, -1}, {1, 6}, {1, MIN}, {1, MAX},
            {0, 6}}) {
            is("ifRun(" + row[0] + ", " + row[1] + ")", z.ifRun(row[0], row[1]), NONE);
        }
    }

    private static void firstCuts() {
        promise(12, "In which of n 1 .. 200 TICKS (1 the first) a SENDER would be CUT first;");
        QueueKeeper x = keeper("limit 1;sets 1;ways 1;sender 9 100 4 3 0;");
        is("firstCut(4)", x.firstCut(4), 4);
        is("firstCut(200)", x.firstCut(200), 4);
        x.run(3);
        is("1 the first", x.firstCut(1), 1);
        x.run(1);
        is("it was CUT once; the next one", x.firstCut(200), 3);
        // The second of two SENDERS: its frame of 100 is PUSHED OUT as the last of 1 byte comes.
        QueueKeeper y = keeper("limit 2;sets 1;ways 2;sender 9 1 1 1 0;sender 8 100 2 5 0;");
        is("any SENDER", y.firstCut(200), 6);
        QueueKeeper z = keeper("limit 1;sets 1;ways 1;sender 9 100 2 99 0;");
        z.run(1);
        // PUSHED OUT at 0: CUT in the TICK at 99, the 99th from 1 on.
        is("the last of 99", z.firstCut(99), 99);
        // 11 was MARKED at 11, of which it HEARS at 13; NOW is 12.
        QueueKeeper w = keeper("target 1;interval 10;quantum 3000;sets 1;ways 1;sender 9 10 20 2 1;run 12;");
        is("the one MARKED already", w.firstCut(200), 2);
        // The last of four SENDERS: the only one of which a FRAME is PUSHED OUT.
        QueueKeeper v = keeper("limit 4;sets 1;ways 4;sender 1 1 1 9 0;sender 2 1 1 9 0;sender 3 1 1 9 0;"
            + "sender 4 90 2 4 0;");
        is("the fourth", v.firstCut(6), 5);
        is("the fourth", v.firstCut(4), ABSENT);

        promise(12, "-2: in none;");
        is("firstCut(98)", z.firstCut(98), ABSENT);
        is("firstCut(3)", keeper("limit 1;sets 1;ways 1;sender 9 100 4 3 0;").firstCut(3), ABSENT);
        is("without SENDERS", new QueueKeeper().firstCut(200), ABSENT);

        promise(12, "NONE: no such n.");
        for (int n : new int[] {0, -1, 201, MIN, MAX}) {
            is("firstCut(" + n + ")", z.firstCut(n), NONE);
        }
    }

    private static void leastLimits() {
        promise(13, "The least LIMIT 1 .. 60 by which in n 1 .. 200 TICKS none would be PUSHED OUT;");
        for (int window = 1; window <= 20; window++) {
            QueueKeeper x = keeper("limit 1;sender 9 10 " + window + " 9 0;");
            is("leastLimit(1) by " + window, x.leastLimit(1), window);
            is("LIMIT stays", x.count(14), 1);
        }
        is("60", keeper("sender 1 9 20 9 0;sender 2 9 20 9 0;sender 3 9 20 9 0;").leastLimit(1), 60);
        is("none comes", new QueueKeeper().leastLimit(200), 1);
        QueueKeeper y = keeper("come 1 9 0;come 1 9 0;come 1 9 0;");
        is("three stand, none comes", y.leastLimit(200), 1);
        QueueKeeper z = keeper("sender 9 10 1 9 0;come 1 9 0;come 1 9 0;come 1 9 0;");
        is("three stand, one comes", z.leastLimit(1), 4);
        is("more TICKS, the same", z.leastLimit(9), 4);
        // In the second TICK two come, in the third one is left and two come.
        QueueKeeper v = keeper("sets 1;ways 1;sender 9 10 1 1 0;");
        is("leastLimit(1)", v.leastLimit(1), 1);
        is("leastLimit(2)", v.leastLimit(2), 2);
        for (int n : new int[] {1, 7, 60, 200}) {
            String text = "rate 60;sets 1;ways 2;target 3;interval 12;sender 9 100 3 2 0;sender 2 50 2 4 1;";
            int least = 0;
            for (int limit = 60; limit >= 1; limit--) {
                QueueKeeper w = keeper("limit " + limit + ";" + text);
                w.run(n);
                least = w.count(7) == 0 ? limit : least;
            }
            is("tried one by one, " + n, keeper("limit 1;" + text).leastLimit(n), least);
        }

        promise(13, "-2: by none;");
        is("61", keeper("sender 1 9 20 9 0;sender 2 9 20 9 0;sender 3 9 20 9 0;sender 4 9 1 9 0;").leastLimit(1), ABSENT);
        is("80", keeper("sender 1 9 20 9 0;sender 2 9 20 9 0;sender 3 9 20 9 0;sender 4 9 20 9 0;").leastLimit(200),
            ABSENT);

        promise(13, "NONE: no such n.");
        for (int n : new int[] {0, -1, 201, MIN, MAX}) {
            is("leastLimit(" + n + ")", z.leastLimit(n), NONE);
        }
    }

    private static void bestTargets() {
        promise(14, "The TARGET 1 .. 99 by which in n 1 .. 200 TICKS the most BYTES would be SENT, the least such one;");
        QueueKeeper x = keeper("interval 10;quantum 3000;sets 1;ways 1;");
        come(x, 11, 1, 10, 0);
        x.pass(98);
        // Up to 98 ABOVE is 108, where the 11th is DROPPED; by 99 ABOVE is 109.
        is("99", x.bestTarget(11), 99);
        is("all are as good: the least", x.bestTarget(10), 1);
        is("bestTarget(200)", x.bestTarget(200), 99);
        is("bestTarget(1)", x.bestTarget(1), 1);
        is("TARGET stays", x.count(11), 5);
        is("nothing is SENT", new QueueKeeper().bestTarget(200), 1);
        // By 151 none would be DROPPED, but 99 is the most.
        QueueKeeper w = keeper("interval 10;quantum 3000;sets 1;ways 1;");
        come(w, 11, 1, 10, 0);
        w.pass(150);
        is("all up to 99 are as good", w.bestTarget(11), 1);
        // At 0, 1, .., 13: up to 3 ABOVE is 13 or less; by 4 it is 14.
        QueueKeeper v = keeper("interval 10;quantum 3000;sets 1;ways 1;");
        come(v, 14, 1, 10, 0);
        is("one by one", v.bestTarget(14), 4);
        is("a TICK less: a 14th one is SENT for one DROPPED", v.bestTarget(13), 1);
        // BYTES, not FRAMES: one TARGET more, and none of the big ones is DROPPED.
        QueueKeeper y = keeper("interval 10;quantum 3000;sets 1;ways 1;");
        come(y, 10, 1, 1, 0);
        y.come(1, 1500, 0);
        y.come(1, 1, 0);
        y.pass(40);
        is("by 41 the 11th isn't DROPPED", y.bestTarget(11), 41);
        // All SENT ahead of it count for nothing.
        QueueKeeper z = keeper("interval 10;quantum 3000;sets 1;ways 1;come 1 1500 0;go 1;");
        come(z, 11, 1, 10, 0);
        z.pass(50);
        is("by 51", z.bestTarget(11), 51);

        promise(14, "NONE: no such n.");
        for (int n : new int[] {0, -1, 201, MIN, MAX}) {
            is("bestTarget(" + n + ")", x.bestTarget(n), NONE);
        }
    }
}
