import java.util.function.ToIntFunction;

/** Boundary cases of Terms 4: two hundred frames, questions, which answer goes first, refused calls. */
final class EdgesRefusals extends Edge {
    private static final String BUSY = "target 2;interval 10;quantum 90;limit 6;rate 40;sender 9 50 4 2 1;"
        + "sender 5 70 3 3 0;come 1 30 0;come 2 40 1;run 12;";

    static void all() {
        twoHundredFrames();
        questionsChangeNothing();
        trialsTellWhatWillBe();
        noneGoesFirst();
        indexGoesFirst();
        refusedCallsChangeNothing();
        lastOf512();
    }

    /** Some 15 frames, two SENDERS, all six WATCHES, and something on the TAPE. */
    private static QueueKeeper busy() {
        QueueKeeper x = keeper(BUSY);
        for (int k = 0; k < 6; k++) {
            x.watch(k, k == 5 ? 9 : 0);
        }
        x.run(6);
        Check.feed(x, "pass 7;come 1 1 0;  ");
        return x;
    }

    private static void twoHundredFrames() {
        terms("FRAMES are 200 at most (a come LINE beyond that does nothing).");
        String text = "limit 60;sender 1 10 20 1 0;run 200;pass 3;";
        QueueKeeper x = keeper(text);
        is("200", x.count(1), 200);
        QueueKeeper y = new QueueKeeper();
        is("its LINES count", Check.text(y, text + "come 2 10 0;come 5 1500 1;"), 6);
        is("still 200", y.count(1), 200);
        is("the last one's KEY", y.frame(199, 0), 1);
        is("no BUCKET began", y.bucket(2, 0), ABSENT);
        is("none PUSHED OUT", y.count(7), x.count(7));
        is("none more stood", y.count(18), x.count(18));
        is("none stands", y.count(2), x.count(2));
        is("no KEY of it came", y.flow(2, 1), 0);
    }

    private static final class Question {
        final String name;
        final ToIntFunction<QueueKeeper> call;

        Question(String name, ToIntFunction<QueueKeeper> call) {
            this.name = name;
            this.call = call;
        }
    }

    private static Question q(String name, ToIntFunction<QueueKeeper> call) {
        return new Question(name, call);
    }

    private static void questionsChangeNothing() {
        terms("What is asked changes nothing.");
        Question[] questions = {q("fault", x -> x.fault(0)), q("sender", x -> x.sender(0, 2)), q("whose", x -> x.whose(3)),
            q("ifRun 0", x -> x.ifRun(200, 0)), q("ifRun 4", x -> x.ifRun(60, 4)), q("ifRun 5", x -> x.ifRun(1, 5)),
            q("firstCut", x -> x.firstCut(200)), q("leastLimit", x -> x.leastLimit(200)),
            q("bestTarget", x -> x.bestTarget(200)), q("watched", x -> x.watched(0)), q("set", x -> x.set(3)),
            q("bucketFor", x -> x.bucketFor(7)), q("bucket", x -> x.bucket(0, 3)), q("inBucket", x -> x.inBucket(0, 0)),
            q("order", x -> x.order(0)), q("frame", x -> x.frame(2, 7)), q("past", x -> x.past(3, 1)),
            q("eldest", x -> x.eldest(0, 1)), q("least", x -> x.least(0)), q("rootBy", x -> x.rootBy(999)),
            q("exact", x -> x.exact(999)), q("farthest", x -> x.farthest(999, 1)), q("flow", x -> x.flow(9, 3)),
            q("uneven", QueueKeeper::uneven), q("ahead", x -> x.ahead(2)), q("drain 0", x -> x.drain(9, 0)),
            q("drain 3", x -> x.drain(999, 3)), q("leastTarget", x -> x.leastTarget(9)),
            q("bestQuantum", x -> x.bestQuantum(9)), q("shared", QueueKeeper::shared), q("within", x -> x.within(0, 9)),
            q("middle", QueueKeeper::middle), q("load", x -> x.load(1)), q("count", x -> x.count(0))};
        for (Question question : questions) {
            QueueKeeper x = busy();
            QueueKeeper y = busy();
            int once = question.call.applyAsInt(x);
            is(question.name + " asked again", question.call.applyAsInt(x), once);
            same(question.name, x, y);
            is("run behind " + question.name, x.run(30), y.run(30));
            is("text behind " + question.name, x.text(18), 2);
            is("the TAPE's text", x.count(0) * 1000 + x.count(1), 7001);
        }
        // One trial leaves nothing to the next.
        QueueKeeper z = busy();
        int cut = z.firstCut(200);
        int sent = z.ifRun(200, 0);
        z.leastLimit(200);
        z.bestTarget(200);
        z.bestQuantum(9);
        z.leastTarget(9);
        z.drain(999, 0);
        z.ahead(0);
        is("firstCut behind others", z.firstCut(200), cut);
        is("ifRun behind others", z.ifRun(200, 0), sent);
    }

    /** What would be is what is, done on another keeper of the same state. */
    private static void trialsTellWhatWillBe() {
        terms("What is asked changes nothing.");
        String one = "target 5;interval 10;quantum 3000;sets 1;ways 1;";
        String[] texts = {BUSY,
            // COUNT 3, ROOT 36864, DROPPING.
            one + "come 1 9 0;".repeat(20) + "pass 5;go 1;pass 10;go 1;pass 9;go 1;pass 5;go 1;",
            one + "come 1 9 1;come 1 9 0;come 1 9 1;".repeat(9) + "pass 5;go 1;pass 10;go 1;pass 9;go 1;pass 5;go 1;",
            // COUNT 3, LAST 1, not DROPPING, and LATE at once.
            one + "come 1 9 1;".repeat(4) + "pass 5;go 1;pass 10;go 1;pass 9;go 1;pass 5;go 1;" + "come 1 9 0;".repeat(9)
                + "pass 1;go 1;pass 4;go 1;pass 10;",
            // What comes stands behind the last one of two.
            "sets 1;ways 1;sender 9 10 3 1 0;run 1;",
            // NEW and OLD.
            "quantum 100;come 1 100 0;come 1 100 0;come 5 10 0;come 5 10 0;go 2;come 3 10 0;come 7 10 0;",
            // A FRAME of the SENDER comes behind another BUCKET of NEW.
            "sender 5 10 1 1 0;come 1 1 0;come 1 1 0;come 1 1 0;",
            "rate 7;small 50;limit 9;sender 5 90 9 5 1;sender 3 40 5 9 0;run 20;pass 30;"};
        for (String text : texts) {
            for (int n : new int[] {1, 2, 3, 4, 5, 6, 7, 8, 9, 60}) {
                tryRun(text, n);
            }
            for (int e : new int[] {0, 1, 3, 7, 10, 40}) {
                tryDrain(text, e);
            }
        }
    }

    private static void tryRun(String text, int n) {
        QueueKeeper x = keeper(text);
        QueueKeeper y = keeper(text);
        int sent = y.count(4);
        int dropped = y.count(5);
        int cuts = cuts(y);
        int first = ABSENT;
        for (int tick = 1; tick <= n; tick++) {
            y.run(1);
            first = first == ABSENT && cuts(y) > cuts ? tick : first;
        }
        int windows = 0;
        for (int k = 0; k < y.count(19); k++) {
            windows += y.sender(k, 2);
        }
        is("ifRun(" + n + ", 0) of " + text, x.ifRun(n, 0), y.count(4) - sent);
        is("ifRun(" + n + ", 1) of " + text, keeper(text).ifRun(n, 1), y.count(5) - dropped);
        is("ifRun(" + n + ", 4) of " + text, x.ifRun(n, 4), y.count(0));
        is("ifRun(" + n + ", 5) of " + text, keeper(text).ifRun(n, 5), windows);
        is("firstCut(" + n + ") of " + text, keeper(text).firstCut(n), first);
    }

    private static int cuts(QueueKeeper x) {
        int cuts = 0;
        for (int k = 0; k < x.count(19); k++) {
            cuts += x.sender(k, 6);
        }
        return cuts;
    }

    private static void tryDrain(String text, int e) {
        QueueKeeper x = keeper(text);
        QueueKeeper y = keeper(text);
        int sent = y.count(4);
        int dropped = y.count(5);
        int marked = y.count(6);
        while (y.count(2) > 0) {
            int f = y.go();
            if (e == 0 && f >= 0) {
                is("ahead of " + text, x.ahead(y.count(4) - sent - 1), f);
            }
            if (e > 0) {
                y.pass(e);
            }
        }
        is("ahead behind all", e > 0 ? ABSENT : x.ahead(y.count(4) - sent), ABSENT);
        is("drain(" + e + ", 0) of " + text, x.drain(e, 0), y.count(4) - sent);
        is("drain(" + e + ", 1) of " + text, keeper(text).drain(e, 1), y.count(5) - dropped);
        is("drain(" + e + ", 2) of " + text, x.drain(e, 2), y.count(6) - marked);
        is("drain(" + e + ", 3) of " + text, keeper(text).drain(e, 3), y.count(0));
    }

    private static void noneGoesFirst() {
        terms("Of several answers that hold NONE goes first, then -2;");
        QueueKeeper x = new QueueKeeper();
        come(x, 200, 1, 1, 0);
        is("come: no such BYTES, there were 200", x.come(1, 0, 0), NONE);
        is("come: no such KEY, there were 200", x.come(-1, 1, 0), NONE);
        is("come: no such MAY, there were 200", x.come(1, 1, 2), NONE);
        for (int k = 0; k < 6; k++) {
            x.watch(0, 0);
        }
        is("watch: no such what, there are 6", x.watch(6, 0), NONE);
        is("watch: no such v, there are 6", x.watch(0, -1), NONE);
        QueueKeeper y = new QueueKeeper();
        is("inBucket: no such BUCKET, not so many", y.inBucket(4, 0), NONE);
        is("inBucket: i below 0, none there", y.inBucket(0, -1), NONE);
        is("order: below 0, none there", y.order(-1), NONE);
        is("past: no such what, none there", y.past(4, 0), NONE);
        is("past: below 0, none there", y.past(0, -1), NONE);
        is("eldest: no such what, none stands", y.eldest(0, 2), NONE);
        is("eldest: no such BUCKET", y.eldest(4, 0), NONE);
        is("least: no such BUCKET", y.least(4), NONE);
        is("watched: below 0, it isn't there", y.watched(-1), NONE);
        is("flow: no such KEY, none was SENT", y.flow(10000, 2), NONE);
        is("ahead: below 0, not so many", y.ahead(-1), NONE);
        is("drain: no such e, none is SENT", y.drain(1000, 4), NONE);
        is("firstCut: no such n, in none", y.firstCut(0), NONE);
        is("whose: no such FRAME", y.whose(0), NONE);
        is("sender: no such ones, never CUT", y.sender(0, 7), NONE);
        QueueKeeper z = keeper("sender 1 9 20 9 0;sender 2 9 20 9 0;sender 3 9 20 9 0;sender 4 9 20 9 0;");
        is("leastLimit: by none", z.leastLimit(1), ABSENT);
        is("leastLimit: no such n, by none", z.leastLimit(201), NONE);
        QueueKeeper w = keeper("interval 10;sets 1;ways 1;");
        come(w, 9, 1, 9, 0);
        is("leastTarget: by none", w.leastTarget(999), ABSENT);
        is("leastTarget: no such e, by none", w.leastTarget(1000), NONE);
    }

    private static void indexGoesFirst() {
        terms("IndexOutOfBoundsException ahead of NoSuchElementException.");
        QueueKeeper x = new QueueKeeper();
        isText("bucket(4, 11)", bucket(x, 4, 11), "IndexOutOfBoundsException");
        isText("bucket(-1, -1)", bucket(x, -1, -1), "IndexOutOfBoundsException");
        isText("bucket(MAX, MIN)", bucket(x, MAX, MIN), "IndexOutOfBoundsException");
        isText("bucket(3, 11)", bucket(x, 3, 11), "NoSuchElementException");
        isText("bucket(4, 0)", bucket(x, 4, 0), "IndexOutOfBoundsException");
    }

    private static void refusedCallsChangeNothing() {
        terms("A call that is refused changes nothing.");
        Question[] refused = {q("text(-1)", x -> x.text(-1)), q("text(21)", x -> x.text(21)),
            q("come, KEY", x -> x.come(10000, 1, 0)), q("come, BYTES", x -> x.come(1, 1501, 0)),
            q("come, MAY", x -> x.come(1, 1, 2)), q("pass(0)", x -> x.pass(0)), q("pass(1000)", x -> x.pass(1000)),
            q("run(0)", x -> x.run(0)), q("run(201)", x -> x.run(201)), q("ifRun(0, 0)", x -> x.ifRun(0, 0)),
            q("settle(6, 1)", x -> x.settle(6, 1)), q("settle(0, 100)", x -> x.settle(0, 100)),
            q("settle(1, 9)", x -> x.settle(1, 9)), q("settle(2, 49)", x -> x.settle(2, 49)),
            q("settle(3, 61)", x -> x.settle(3, 61)), q("settle(4, 3001)", x -> x.settle(4, 3001)),
            q("settle(5, -1)", x -> x.settle(5, -1)), q("watch(6, 0)", x -> x.watch(6, 0)),
            q("watch(0, 0), a seventh", x -> x.watch(0, 0)), q("drain(1000, 0)", x -> x.drain(1000, 0)),
            q("leastTarget(-1)", x -> x.leastTarget(-1)), q("bestQuantum(1000)", x -> x.bestQuantum(1000)),
            q("leastLimit(0)", x -> x.leastLimit(0)), q("bestTarget(201)", x -> x.bestTarget(201)),
            q("firstCut(201)", x -> x.firstCut(201)), q("bucket(4, 0)", x -> bucket(x, 4, 0).length() > 9 ? NONE : 0),
            q("bucket(0, 11)", x -> bucket(x, 0, 11).length() > 9 ? NONE : 0)};
        for (Question call : refused) {
            QueueKeeper x = busy();
            QueueKeeper y = busy();
            is(call.name + " is refused", call.call.applyAsInt(x) < 0 ? 1 : 0, 1);
            same(call.name, x, y);
            is("run behind " + call.name, x.run(30), y.run(30));
            same("later on behind " + call.name, x, y);
            is("text behind " + call.name, x.text(18), 2);
        }
        // A TAPE that is full.
        QueueKeeper z = busy();
        QueueKeeper w = busy();
        while (z.feed(0x20202020, 0x20202020, 0x20202020, 0x20202020, 0x20202020) > 0) {
            w.feed(0x20202020, 0x20202020, 0x20202020, 0x20202020, 0x20202020);
        }
        z.feed(-1, -1, -1, -1, -1);
        same("feed", z, w);
        is("what it holds", z.text(900), 2);
        // 200 FRAMES: what comes is refused, and no BUCKET begins by it.
        QueueKeeper v = keeper("limit 60;");
        come(v, 200, 1, 1, 0);
        is("come", v.come(5, 1, 0), ABSENT);
        is("TAG", v.bucket(2, 0), ABSENT);
        is("stand", v.count(2), 60);
        is("most stood", v.count(18), 61);
        is("shared", v.shared(), 0);
    }

    private static void lastOf512() {
        whatItIs("An object is used for at most 512 calls after it has been made;");
        QueueKeeper x = new QueueKeeper();
        for (int call = 1; call <= 255; call++) {
            is("pass, call " + (2 * call - 1), x.pass(999), 999 * call);
            is("pass, call " + 2 * call, x.pass(1000), NONE);
        }
        is("call 511", x.come(1, 1, 0), 0);
        is("call 512", x.frame(0, 3), 999 * 255);
    }
}
