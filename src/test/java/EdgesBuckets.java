/**
 * Boundary cases of Terms 2 up to SERVED, and of promises 5 to 7, 18 to 23, 25, 36, 39. Of two SETS keys
 * 0 to 4 are of the first, 5 to 9 of the second.
 */
final class EdgesBuckets extends Edge {
    static void all() {
        timesAndNumbers();
        bucketsOfSets();
        hashes();
        freeBuckets();
        ownBucket();
        firstFreeOne();
        keyModuloWays();
        moreThanLimit();
        theMostBytes();
        whoIsServed();
        deficits();
        noneLeft();
        rates();
        comes();
        passes();
        goes();
        setsAndBucketsFor();
        bucketAnswers();
        bucketThrows();
        inBuckets();
        orders();
        frames();
        eldestOnes();
        sharedOnes();
        loads();
    }

    private static void timesAndNumbers() {
        terms("NOW is 0 at first.");
        is("now", new QueueKeeper().count(0), 0);
        is("behind a text", keeper("target 1;").count(0), 0);

        terms("FRAMES have numbers 0, 1, .. as they COME, CAME (NOW then).");
        QueueKeeper x = keeper("come 1 5 0;pass 2;");
        is("the second", x.come(5, 7, 0), 1);
        is("the third", x.come(1, 7, 0), 2);
        is("CAME of 0", x.frame(0, 3), 0);
        is("CAME of 1", x.frame(1, 3), 2);
        x.pass(1);
        is("CAME stays", x.frame(2, 3), 2);
        is("a pushed out one keeps its number", keeper("limit 1;come 1 5 0;come 1 5 0;").come(1, 5, 0), 2);
    }

    private static void bucketsOfSets() {
        terms("BUCKETS: SETS times WAYS, those of a SET one behind another.");
        for (int sets = 1; sets <= 4; sets++) {
            for (int ways = 1; ways <= 4; ways++) {
                QueueKeeper x = keeper("sets " + sets + ";ways " + ways + ";");
                is("buckets of " + sets + " by " + ways, x.count(8), sets * ways);
                for (int key = 0; key < 12; key++) {
                    is("the first of its set, key " + key, x.bucketFor(key), x.set(key) * ways);
                }
            }
        }
        QueueKeeper x = keeper("ways 3;come 5 1 0;come 6 1 0;come 7 1 0;come 1 1 0;come 2 1 0;come 3 1 0;");
        int[] places = new int[6];
        for (int f = 0; f < 6; f++) {
            places[f] = x.frame(f, 4);
        }
        Check.dueRow("one behind another", places, 3, 4, 5, 0, 1, 2);
    }

    private static void hashes() {
        terms("HASH of a KEY: KEY times 40503, of that what is left by 65536, by 256, downwards, modulo SETS: its SET.");
        // 0; 40503 is 158 times 256 and 55; 2: 81006 less 65536 is 15470, 60 times 256 and 110.
        int[] keys = {0, 1, 2, 3, 5, 8, 9999};
        int[] by256 = {0, 158, 60, 218, 23, 241, 166};
        for (int sets = 1; sets <= 4; sets++) {
            QueueKeeper x = keeper("sets " + sets + ";");
            for (int i = 0; i < keys.length; i++) {
                is("set(" + keys[i] + ") of " + sets, x.set(keys[i]), by256[i] % sets);
            }
        }
        for (int sets = 1; sets <= 4; sets++) {
            QueueKeeper x = keeper("sets " + sets + ";");
            for (long key = 0; key < 10000; key++) {
                if (key % 400 == 0) {
                    x = keeper("sets " + sets + ";");
                }
                is("set(" + key + ") of " + sets, x.set((int) key), key * 40503 % 65536 / 256 % sets);
            }
        }
    }

    private static void freeBuckets() {
        terms("A BUCKET is FREE, if it is in no LIST.");
        QueueKeeper x = keeper("come 1 5 0;");
        is("in NEW", x.bucket(0, 4), 1);
        is("three FREE ones", x.count(9), 3);
        x.go();
        is("without frames it is in NEW still", x.bucket(0, 4), 1);
        is("so it isn't FREE", x.count(9), 3);
        is("order(0)", x.order(0), 0);
        x.go();
        is("in no LIST", x.bucket(0, 4), 0);
        is("order(0)", x.order(0), ABSENT);
        is("four FREE ones", x.count(9), 4);
    }

    private static void ownBucket() {
        terms("A FRAME goes to the first BUCKET of its SET that isn't FREE whose TAG is its KEY;");
        QueueKeeper x = keeper("come 1 5 0;come 2 5 0;come 2 5 0;");
        is("its own is the second", x.bucketFor(2), 1);
        x.go();
        x.go();
        is("the first is FREE", x.bucket(0, 4), 0);
        is("its own goes ahead of a FREE one", x.bucketFor(2), 1);
        x.go();
        is("its own has no frames", x.bucket(1, 1), 0);
        is("but isn't FREE", x.bucketFor(2), 1);
        is("come", x.come(2, 5, 0), 3);
        is("it went there", x.frame(3, 4), 1);
        is("which did not begin anew", x.bucket(1, 3), 300 - 10);
        x.go();
        x.go();
        is("now it is FREE", x.bucket(1, 4), 0);
        is("TAG of a FREE one is nothing", x.bucketFor(2), 0);
        // A TAG of another SET's BUCKET is nothing either: key 5 has bucket 2, key 1 goes to 0.
        is("another set's", keeper("come 5 5 0;").bucketFor(1), 0);
    }

    private static void firstFreeOne() {
        terms("else to the first FREE one there (which begins anew: TAG that KEY, no COUNTS, see below; DEFICIT is "
            + "QUANTUM, it is the last of the LIST NEW then);");
        QueueKeeper x = keeper("ways 3;come 1 5 0;");
        is("the first FREE one", x.bucketFor(2), 1);
        x.come(2, 5, 0);
        is("the last one", x.bucketFor(3), 2);
        x.come(3, 5, 0);
        x.come(6, 5, 0);
        int[] order = {x.order(0), x.order(1), x.order(2), x.order(3), x.order(4)};
        Check.dueRow("the last of NEW", order, 0, 1, 2, 3, -2);

        // Bucket 0 drops, is FREE with COUNT 1, LAST 1, NEXT 24, DROPPING, and begins anew.
        QueueKeeper y = keeper("interval 10;sets 1;ways 1;come 1 100 0;come 1 100 0;pass 5;go 1;pass 10;go 1;");
        Check.dueRow("as it was left", Check.bucketRow(y, 0), 1, 0, 0, 200, 0, 1, 1, 1, 24, -2, 65535);
        y.settle(2, 77);
        y.come(4, 9, 0);
        Check.dueRow("begun anew", Check.bucketRow(y, 0), 4, 1, 9, 77, 1, 0, 0, 0, 0, -2, 65535);

        // Bucket 0 is OLD, 2 is NEW: bucket 1 comes behind 2, ahead of 0.
        QueueKeeper z = keeper("quantum 100;come 1 100 0;come 1 100 0;come 5 10 0;come 5 10 0;go 2;");
        is("0 is OLD", z.bucket(0, 4), 2);
        z.come(3, 10, 0);
        Check.dueRow("the last of NEW is ahead of OLD", new int[] {z.order(0), z.order(1), z.order(2), z.order(3)},
            2, 1, 0, -2);
        // NEW is empty, OLD is 2, 0.
        QueueKeeper w = keeper("quantum 100;come 5 100 0;come 5 10 0;come 1 100 0;come 1 10 0;go 3;");
        Check.dueRow("OLD", new int[] {w.order(0), w.order(1), w.bucket(2, 4), w.bucket(0, 4)}, 2, 0, 2, 2);
        w.come(3, 10, 0);
        Check.dueRow("the only one of NEW", new int[] {w.order(0), w.order(1), w.order(2), w.order(3)}, 1, 2, 0, -2);
        w.come(7, 10, 0);
        Check.dueRow("the last of NEW", new int[] {w.order(0), w.order(1), w.order(2), w.order(3), w.order(4)},
            1, 3, 2, 0, -2);
    }

    private static void keyModuloWays() {
        terms("else to that one of the SET that is KEY modulo WAYS (it is SHARED then, TAG stays).");
        QueueKeeper x = keeper("ways 3;come 5 1 0;come 6 1 0;come 7 1 0;");
        is("9 modulo 3", x.bucketFor(9), 3);
        is("8 modulo 3", x.bucketFor(8), 5);
        is("the other set is FREE", x.bucketFor(4), 0);
        x.come(8, 2, 0);
        is("it went there", x.frame(3, 4), 5);
        is("TAG stays", x.bucket(5, 0), 7);
        is("DEFICIT stays", x.bucket(5, 3), 300);
        is("once more", x.bucketFor(8), 5);
        is("its own", x.bucketFor(7), 5);
        is("one way: all of them", keeper("sets 1;ways 1;come 3 1 0;").bucketFor(9999), 0);

        terms("Behind its FRAMES it stands.");
        x.come(7, 3, 0);
        Check.dueRow("bucket 5", new int[] {x.inBucket(5, 0), x.inBucket(5, 1), x.inBucket(5, 2), x.inBucket(5, 3)},
            2, 3, 4, -2);
    }

    private static void moreThanLimit() {
        terms("Are there more than LIMIT then,");
        for (int limit : new int[] {1, 2, 40, 60}) {
            QueueKeeper x = keeper("limit " + limit + ";");
            come(x, limit, 1, 9, 0);
            is("LIMIT " + limit + " stand", x.count(2), limit);
            is("none is PUSHED OUT", x.count(7), 0);
            x.come(5, 1, 0);
            is("one more", x.count(7), 1);
            is("so many stand", x.count(2), limit);
            is("so many stood", x.count(18), limit + 1);
        }
        QueueKeeper y = keeper("limit 3;come 1 9 0;come 1 9 0;come 1 9 0;");
        y.settle(3, 1);
        is("nothing at once", y.count(7), 0);
        y.come(1, 9, 0);
        is("one only, though there are more than LIMIT still", y.count(7), 1);
        is("they stand", y.count(2), 3);
    }

    private static void theMostBytes() {
        terms("the BUCKET with the most BYTES, the first, has its first FRAME PUSHED OUT.");
        // Bucket 2 is ahead of 0 in the LIST; 0 is the first by its number.
        QueueKeeper x = keeper("limit 2;come 5 9 0;come 1 8 0;come 1 1 0;");
        is("as many BYTES: the first", x.past(3, 0), 1);
        is("its first FRAME", x.inBucket(0, 0), 2);
        QueueKeeper y = keeper("limit 2;come 5 9 0;come 1 7 0;come 1 1 0;");
        is("one less: the other", y.past(3, 0), 0);
        is("when", y.frame(0, 7), 0);
        // BYTES count, not FRAMES.
        QueueKeeper z = keeper("limit 3;come 1 1 0;come 1 1 0;come 1 1 0;come 7 4 0;");
        is("that which came itself", z.past(3, 0), 3);
        is("it stands no more", z.inBucket(2, 0), ABSENT);
        is("its bucket is in NEW still", z.bucket(2, 4), 1);
        // The last of sixteen has the most; then three have as many.
        QueueKeeper w = sixteen("limit 60;");
        is("so far", w.count(2), 16);
        w.settle(3, 16);
        int last = w.inBucket(15, 0);
        w.come(w.bucket(15, 0), 5, 0);
        is("the last BUCKET", w.past(3, 0), last);
        w.settle(3, 60);
        w.come(w.bucket(3, 0), 5, 0);
        w.come(w.bucket(9, 0), 5, 0);
        w.settle(3, 1);
        int first = w.inBucket(3, 0);
        int single = w.come(w.bucket(1, 0), 1, 0);
        is("the first of those that have the most", w.past(3, 1), first);
        is("the one that came stands", w.frame(single, 6), 0);
    }

    /** One frame of 10 bytes in each of sixteen buckets. */
    private static QueueKeeper sixteen(String more) {
        QueueKeeper x = keeper("sets 4;ways 4;" + more);
        for (int key = 0; x.count(9) > 0; key++) {
            if (x.bucket(x.bucketFor(key), 4) == 0) {
                x.come(key, 10, 0);
            }
        }
        return x;
    }

    private static void whoIsServed() {
        terms("SERVED is one FRAME: the first BUCKET of the LIST NEW, without any that of OLD, without any nothing.");
        QueueKeeper x = keeper("quantum 100;come 5 100 0;come 5 10 0;come 1 10 0;go 1;come 3 10 0;go 1;");
        // 2 has sent 100 and is OLD; 0 has sent 10; 1 is NEW.
        is("2 is OLD", x.bucket(2, 4), 2);
        is("0 sent one, being the first of NEW", x.past(0, 1), 2);
        is("then 1 of NEW", x.go(), 3);
        is("without any that of OLD", x.go(), 1);
        is("nothing", x.go(), ABSENT);
        is("nothing once more", x.go(), ABSENT);
        is("nothing of a new one", new QueueKeeper().go(), ABSENT);
    }

    private static void deficits() {
        terms("Is its DEFICIT 0 or less, it is QUANTUM more, and it becomes the last of OLD; on from the begin.");
        for (int bytes = 99; bytes <= 101; bytes++) {
            QueueKeeper x = keeper("quantum 100;come 1 " + bytes + " 0;come 1 7 0;come 5 10 0;go 1;");
            is("DEFICIT", x.bucket(0, 3), 100 - bytes);
            is("still NEW", x.bucket(0, 4), 1);
            is("go behind " + bytes, x.go(), bytes == 99 ? 1 : 2);
            is("DEFICIT behind " + bytes, x.bucket(0, 3), bytes == 99 ? 1 - 7 : 200 - bytes);
            is("LIST behind " + bytes, x.bucket(0, 4), bytes == 99 ? 1 : 2);
        }
        // -1450 becomes 0 by 29 times 50, which isn't above 0, and 50 by 30.
        QueueKeeper y = keeper("quantum 50;come 1 1500 0;come 1 10 0;go 1;");
        is("DEFICIT", y.bucket(0, 3), -1450);
        is("on from the begin", y.go(), 1);
        is("30 times", y.bucket(0, 3), 50 - 10);
        // Two of OLD take turns: each gets its QUANTUM behind the other one.
        QueueKeeper z = keeper("quantum 50;come 1 200 0;come 1 9 0;come 5 100 0;come 5 9 0;go 2;");
        is("0 is -150 and 50", z.bucket(0, 3), -100);
        is("2 is -50", z.bucket(2, 3), -50);
        // 2 becomes 0, 0 becomes -50, 2 becomes 50, 0 becomes 0, then 2 sends.
        is("go", z.go(), 3);
        is("0", z.bucket(0, 3), 0);
        is("2", z.bucket(2, 3), 50 - 9);
    }

    private static void noneLeft() {
        terms("Else the KEEPER takes a FRAME of it; is there none, it becomes the last of OLD, if it was in NEW and "
            + "OLD isn't empty, else it is FREE; on from the begin.");
        QueueKeeper x = keeper("come 1 10 0;go 1;");
        is("in NEW, OLD empty", x.go(), ABSENT);
        is("FREE", x.bucket(0, 4), 0);
        QueueKeeper y = keeper("quantum 100;come 1 100 0;come 1 10 0;come 1 10 0;come 5 10 0;go 2;");
        is("2 is in NEW without any", y.bucket(2, 4), 1);
        is("on from the begin: 0 of OLD", y.go(), 1);
        is("2 is the last of OLD", y.order(1), 2);
        is("LIST", y.bucket(2, 4), 2);
        is("0 sends its last", y.go(), 2);
        is("0 and 2 of OLD have none", y.go(), ABSENT);
        is("0 is FREE", y.bucket(0, 4), 0);
        is("2 is FREE", y.bucket(2, 4), 0);
        // In NEW without any, though another one of NEW is behind it: OLD is what counts.
        QueueKeeper z = keeper("come 1 10 0;come 5 10 0;go 1;");
        is("go", z.go(), 1);
        is("0 is FREE at once", z.bucket(0, 4), 0);
    }

    private static void rates() {
        terms("Else that is SENT: DEFICIT is its BYTES less; with a RATE above 0 NOW is more, behind that, by its BYTES "
            + "by RATE, upwards.");
        int[][] rows = {{0, 1500, 0}, {1, 1500, 1500}, {1500, 1500, 1}, {1500, 1, 1}, {100, 99, 1}, {100, 100, 1},
            {100, 101, 2}, {100, 200, 2}, {7, 50, 8}, {7, 49, 7}};
        for (int[] row : rows) {
            QueueKeeper x = keeper("rate " + row[0] + ";come 1 " + row[1] + " 0;");
            is("go", x.go(), 0);
            is(row[1] + " BYTES by RATE " + row[0], x.count(0), row[2]);
            is("SENT ahead of that", x.frame(0, 7), 0);
            is("DEFICIT", x.bucket(0, 3), 300 - row[1]);
            is("nothing is SENT", x.go(), ABSENT);
            is("so NOW stays", x.count(0), row[2]);
        }
    }

    private static void comes() {
        promise(5, "A FRAME COMES: its number;");
        QueueKeeper x = new QueueKeeper();
        is("the least", x.come(0, 1, 0), 0);
        is("the most", x.come(9999, 1500, 1), 1);

        promise(5, "NONE: no such KEY, BYTES, MAY;");
        int[][] bad = {{-1, 1, 0}, {10000, 1, 0}, {MIN, 1, 0}, {MAX, 1, 0}, {0, 0, 0}, {0, -1, 0}, {0, 1501, 0},
            {0, MIN, 0}, {0, MAX, 0}, {0, 1, -1}, {0, 1, 2}, {0, 1, MIN}, {0, 1, MAX}};
        for (int[] row : bad) {
            is("come(" + row[0] + ", " + row[1] + ", " + row[2] + ")", x.come(row[0], row[1], row[2]), NONE);
        }
        is("none came", x.count(1), 2);

        promise(5, "-2: there were 200.");
        QueueKeeper y = new QueueKeeper();
        for (int f = 0; f < 200; f++) {
            is("the next", y.come(f, 1, 0), f);
        }
        is("one more", y.come(1, 1, 0), ABSENT);
        is("wrong and one more", y.come(1, 0, 0), NONE);
        is("200", y.count(1), 200);
        is("stand", y.count(2), 40);
        for (int i = 0; i < 40; i++) {
            y.go();
        }
        is("though none stands", y.come(1, 1, 0), ABSENT);
    }

    private static void passes() {
        promise(6, "NOW is n 1 .. 999 more: NOW;");
        QueueKeeper x = new QueueKeeper();
        is("pass(1)", x.pass(1), 1);
        is("pass(999)", x.pass(999), 1000);

        promise(6, "NONE: no such n, NOW would be above 999999.");
        for (int n : new int[] {0, -1, 1000, MIN, MAX}) {
            is("pass(" + n + ")", x.pass(n), NONE);
        }
        is("NOW stays", x.count(0), 1000);
        // More calls than an object has, but the words hold.
        passTo(x, 999000);
        is("999000 and 999", x.pass(999), 999999);
        is("1 more", x.pass(1), NONE);
        is("999 more", x.pass(999), NONE);
        is("NOW stays", x.count(0), 999999);
        QueueKeeper y = new QueueKeeper();
        passTo(y, 999001);
        is("999 more is above", y.pass(999), NONE);
        is("998 more is not", y.pass(998), 999999);
    }

    private static void goes() {
        promise(7, "One is SERVED: the FRAME that is SENT;");
        QueueKeeper x = keeper("come 1 1 0;come 5 1 0;");
        is("go", x.go(), 0);
        is("go", x.go(), 1);

        promise(7, "-2: none is (all FREE then).");
        is("go", x.go(), ABSENT);
        is("all FREE", x.count(9), 4);
        is("go of a new one", new QueueKeeper().go(), ABSENT);
        // The last one is dropped, so none is SENT.
        QueueKeeper y = keeper("interval 10;come 1 9 0;come 1 9 0;pass 5;go 1;pass 10;");
        is("one stands", y.count(2), 1);
        is("go", y.go(), ABSENT);
        is("all FREE", y.count(9), 4);
        is("none stands", y.count(2), 0);
    }

    private static void setsAndBucketsFor() {
        promise(18, "HASH of a KEY 0 .. 9999: its SET;");
        is("set(0)", new QueueKeeper().set(0), 0);
        is("set(9999)", keeper("sets 4;").set(9999), 2);

        promise(18, "NONE: no such KEY.");
        for (int key : new int[] {-1, 10000, MIN, MAX}) {
            is("set(" + key + ")", new QueueKeeper().set(key), NONE);
        }

        promise(19, "The BUCKET to which a FRAME of a KEY would go now;");
        QueueKeeper x = keeper("ways 1;come 1 1 0;");
        is("bucketFor(0)", x.bucketFor(0), 0);
        is("bucketFor(9999)", x.bucketFor(9999), 0);
        is("bucketFor(5)", x.bucketFor(5), 1);
        is("asking does not begin it", x.bucket(1, 0), ABSENT);
        for (int i = 1; i < 200; i++) {
            x.come(1, 1, 0);
        }
        is("though there were 200", x.bucketFor(5), 1);

        promise(19, "NONE: no such KEY.");
        for (int key : new int[] {-1, 10000, MIN, MAX}) {
            is("bucketFor(" + key + ")", x.bucketFor(key), NONE);
        }
    }

    private static void bucketAnswers() {
        promise(20, "Of a BUCKET, what 0 TAG (-2 as long as it never began),");
        QueueKeeper x = keeper("interval 10;sets 1;ways 2;");
        is("it never began", x.bucket(0, 0), ABSENT);
        x.come(0, 100, 1);
        is("TAG 0", x.bucket(0, 0), 0);
        is("the other one never began", x.bucket(1, 0), ABSENT);
        x.go();
        x.go();
        is("FREE, but it began", x.bucket(0, 0), 0);
        is("a text", x.text(0), 0);
        is("all anew: it never began", x.bucket(0, 0), ABSENT);

        promise(20, "1 FRAMES, 2 BYTES, 3 DEFICIT, 4 LIST (0 FREE, 1 NEW, 2 OLD), 5 COUNT, 6 LAST, 7 whether it is "
            + "DROPPING (1, 0), 8 NEXT, 9 ABOVE (-2: none), 10 ROOT.");
        QueueKeeper y = keeper("interval 10;quantum 100;sets 1;ways 1;come 7 100 1;come 7 60 1;come 7 50 1;");
        Check.dueRow("NEW", Check.bucketRow(y, 0), 7, 3, 210, 100, 1, 0, 0, 0, 0, -2, 65535);
        y.pass(5);
        y.go();
        Check.dueRow("ABOVE", Check.bucketRow(y, 0), 7, 2, 110, 0, 1, 0, 0, 0, 0, 15, 65535);
        y.pass(10);
        y.go();
        Check.dueRow("OLD, DROPPING", Check.bucketRow(y, 0), 7, 1, 50, 40, 2, 1, 1, 1, 24, 15, 65535);
        y.pass(9);
        y.go();
        Check.dueRow("the last one", Check.bucketRow(y, 0), 7, 0, 0, -10, 2, 2, 1, 1, 29, 15, 32769);
        y.go();
        Check.dueRow("FREE", Check.bucketRow(y, 0), 7, 0, 0, 90, 0, 2, 1, 0, 29, -2, 32769);
    }

    private static void bucketThrows() {
        promise(20, "IndexOutOfBoundsException: no such BUCKET.");
        int[][] shapes = {{1, 1}, {1, 4}, {2, 2}, {4, 1}, {3, 4}, {4, 4}};
        for (int[] shape : shapes) {
            QueueKeeper x = keeper("sets " + shape[0] + ";ways " + shape[1] + ";");
            int buckets = shape[0] * shape[1];
            isText("the last one", bucket(x, buckets - 1, 0), "-2");
            for (int k : new int[] {buckets, buckets + 1, 16, 17, -1, MIN, MAX}) {
                if (k < 0 || k >= buckets) {
                    isText("bucket(" + k + ", 0)", bucket(x, k, 0), "IndexOutOfBoundsException");
                    isText("bucket(" + k + ", 11)", bucket(x, k, 11), "IndexOutOfBoundsException");
                }
            }
        }
        promise(20, "NoSuchElementException: no such what.");
        QueueKeeper y = new QueueKeeper();
        isText("bucket(0, 10)", bucket(y, 0, 10), "65535");
        for (int what : new int[] {-1, 11, MIN, MAX}) {
            isText("bucket(0, " + what + ")", bucket(y, 0, what), "NoSuchElementException");
            isText("bucket(3, " + what + ")", bucket(y, 3, what), "NoSuchElementException");
        }
    }

    private static void inBuckets() {
        promise(21, "The i-th FRAME (0 on) that stands in a BUCKET;");
        QueueKeeper x = keeper("come 1 1 0;come 5 1 0;come 1 1 0;come 5 1 0;");
        Check.dueRow("bucket 0", new int[] {x.inBucket(0, 0), x.inBucket(0, 1)}, 0, 2);
        Check.dueRow("bucket 2", new int[] {x.inBucket(2, 0), x.inBucket(2, 1)}, 1, 3);

        promise(21, "-2: there are not so many;");
        is("inBucket(0, 2)", x.inBucket(0, 2), ABSENT);
        is("inBucket(1, 0)", x.inBucket(1, 0), ABSENT);
        is("inBucket(0, MAX)", x.inBucket(0, MAX), ABSENT);
        x.go();
        is("one is SENT", x.inBucket(0, 1), ABSENT);
        is("the other one is the first", x.inBucket(0, 0), 2);
        QueueKeeper y = keeper("limit 60;");
        come(y, 60, 1, 1, 0);
        is("the 60th", y.inBucket(0, 59), 59);
        is("no 61st", y.inBucket(0, 60), ABSENT);
        is("inBucket(0, 199)", y.inBucket(0, 199), ABSENT);
        is("inBucket(0, 200)", y.inBucket(0, 200), ABSENT);

        promise(21, "NONE: no such ones.");
        for (int[] row : new int[][] {{-1, 0}, {4, 0}, {MIN, 0}, {MAX, 0}, {0, -1}, {0, MIN}, {1, -1}, {4, -1}}) {
            is("inBucket(" + row[0] + ", " + row[1] + ")", x.inBucket(row[0], row[1]), NONE);
        }
    }

    private static void orders() {
        promise(22, "The i-th BUCKET (0 on) of LISTS, NEW ahead of OLD;");
        QueueKeeper x = sixteen("");
        int seen = 0;
        for (int i = 0; i < 16; i++) {
            is("in NEW", x.bucket(x.order(i), 4), 1);
            seen |= 1 << x.order(i);
        }
        is("all of them", seen, 0xffff);

        promise(22, "-2: there are not so many;");
        is("order(16)", x.order(16), ABSENT);
        is("order(MAX)", x.order(MAX), ABSENT);
        is("order(0) of a new one", new QueueKeeper().order(0), ABSENT);
        is("order(1) of one", keeper("come 1 1 0;").order(1), ABSENT);

        promise(22, "NONE: i is below 0.");
        is("order(-1)", x.order(-1), NONE);
        is("order(MIN)", x.order(MIN), NONE);
    }

    private static void frames() {
        promise(23, "Of a FRAME, what 0 KEY, 1 BYTES, 2 MAY, 3 CAME, 4 BUCKET, 5 whether it is MARKED (1, 0), 6 what "
            + "became of it: 0 it stands, 1 SENT, 2 DROPPED, 3 PUSHED OUT, 7 when (-2: it stands);");
        QueueKeeper x = keeper("interval 10;limit 4;sets 1;ways 1;come 1 90 1;come 1 40 0;come 1 30 1;come 1 20 0;"
            + "pass 2;come 1 10 1;pass 5;");
        Check.dueRow("PUSHED OUT", Check.frameRow(x, 0), 1, 90, 1, 0, 0, 0, 3, 2);
        Check.dueRow("it stands", Check.frameRow(x, 1), 1, 40, 0, 0, 0, 0, 0, -2);
        is("go", x.go(), 1);
        x.pass(10);
        is("go", x.go(), 2);
        x.pass(10);
        is("go", x.go(), 4);
        Check.dueRow("SENT", Check.frameRow(x, 1), 1, 40, 0, 0, 0, 0, 1, 7);
        Check.dueRow("SENT, MARKED", Check.frameRow(x, 2), 1, 30, 1, 0, 0, 1, 1, 17);
        Check.dueRow("DROPPED", Check.frameRow(x, 3), 1, 20, 0, 0, 0, 0, 2, 27);
        Check.dueRow("came at 2", Check.frameRow(x, 4), 1, 10, 1, 2, 0, 0, 1, 27);

        promise(23, "NONE: no such ones.");
        for (int[] row : new int[][] {{-1, 0}, {5, 0}, {MIN, 0}, {MAX, 0}, {200, 0}, {0, -1}, {0, 8}, {0, MIN},
            {0, MAX}, {5, 8}}) {
            is("frame(" + row[0] + ", " + row[1] + ")", x.frame(row[0], row[1]), NONE);
        }
        QueueKeeper y = new QueueKeeper();
        come(y, 200, 1, 1, 0);
        is("frame(199, 0)", y.frame(199, 0), 1);
        is("frame(200, 0)", y.frame(200, 0), NONE);
    }

    private static void eldestOnes() {
        promise(25, "The greatest WAIT by NOW of FRAMES that stand in a BUCKET (what 0), the FRAME, the first (1);");
        QueueKeeper x = keeper("come 1 1 0;come 1 1 0;pass 3;come 1 1 0;come 5 1 0;");
        is("eldest(0, 0)", x.eldest(0, 0), 3);
        is("of two that wait as long the first", x.eldest(0, 1), 0);
        is("a WAIT of 0", x.eldest(2, 0), 0);
        is("eldest(2, 1)", x.eldest(2, 1), 3);
        x.go();
        is("the next", x.eldest(0, 1), 1);

        promise(25, "-2: none stands there;");
        is("eldest(1, 0)", x.eldest(1, 0), ABSENT);
        is("eldest(1, 1)", x.eldest(1, 1), ABSENT);
        x.go();
        x.go();
        is("none any more", x.eldest(0, 0), ABSENT);
        is("none any more", x.eldest(0, 1), ABSENT);

        promise(25, "NONE: no such ones.");
        for (int[] row : new int[][] {{-1, 0}, {4, 0}, {4, 1}, {MIN, 0}, {MAX, 1}, {0, -1}, {0, 2}, {1, 2}, {0, MIN},
            {0, MAX}}) {
            is("eldest(" + row[0] + ", " + row[1] + ")", x.eldest(row[0], row[1]), NONE);
        }
    }

    private static void sharedOnes() {
        promise(36, "Of how many KEYS a FRAME has come to a BUCKET whose TAG was another one.");
        QueueKeeper x = keeper("sets 1;ways 1;");
        is("none came", x.shared(), 0);
        x.come(1, 1, 0);
        is("its own", x.shared(), 0);
        x.come(2, 1, 0);
        x.come(2, 1, 0);
        is("a KEY counts once", x.shared(), 1);
        x.come(0, 1, 0);
        is("another KEY", x.shared(), 2);
        x.come(1, 1, 0);
        is("its own still", x.shared(), 2);
        for (int i = 0; i < 6; i++) {
            x.go();
        }
        x.come(2, 1, 0);
        is("its own now, but it has come to another's", x.shared(), 2);
        x.come(1, 1, 0);
        is("now 1 has, too", x.shared(), 3);
        x.text(0);
        is("all anew", x.shared(), 0);
        QueueKeeper y = keeper("sets 1;ways 1;limit 1;come 1 1 0;come 2 1 0;come 3 9 0;");
        is("PUSHED OUT or not", y.shared(), 2);
        QueueKeeper z = keeper("sets 1;ways 1;");
        for (int key = 0; key < 200; key++) {
            z.come(key, 1, 0);
        }
        is("199 of 200", z.shared(), 199);
    }

    private static void loads() {
        promise(39, "How many KEYS 0 .. 9999 have a SET;");
        for (int sets = 1; sets <= 4; sets++) {
            QueueKeeper x = keeper("sets " + sets + ";");
            int[] loads = new int[sets];
            for (long key = 0; key <= 9999; key++) {
                loads[(int) (key * 40503 % 65536 / 256 % sets)]++;
            }
            for (int set = 0; set < sets; set++) {
                is("load(" + set + ") of " + sets, x.load(set), loads[set]);
            }
        }
        is("one SET has all", keeper("sets 1;").load(0), 10000);

        promise(39, "NONE: no such SET.");
        for (int sets = 1; sets <= 4; sets++) {
            QueueKeeper x = keeper("sets " + sets + ";");
            for (int set : new int[] {-1, sets, 4, 5, MIN, MAX}) {
                is("load(" + set + ") of " + sets, x.load(set), NONE);
            }
        }
    }
}
