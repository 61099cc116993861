/** Promises 1 to 4: a new object, feed, text, fault. */
public final class TextTest {
    private static final int NONE = QueueKeeper.NONE;

    public static void main(String[] args) {
        newObject();
        feeding();
        takingTheTape();
        settings();
        everyWord();
        blanks();
        faultsOfTokens();
        faultsOfNumbers();
        faultsToldAlready();
        theFirstFaultCounts();
        refusedTextChangesNothing();
        textForgetsAll();
        Check.finish("TextTest");
    }

    private static void newObject() {
        QueueKeeper x = new QueueKeeper();
        int[] first = {0, 0, 0, 0, 0, 0, 0, 0, 4, 4, 0, 5, 100, 300, 40, 0, 0, 0, 0, 0};
        for (int what = 0; what < first.length; what++) {
            Check.due("new count(" + what + ")", x.count(what), first[what]);
        }
        for (int k = 0; k < 4; k++) {
            Check.dueRow("new bucket " + k, Check.bucketRow(x, k), -2, 0, 0, 0, 0, 0, 0, 0, 0, -2, 65535);
        }
        Check.due("new fault(0)", x.fault(0), 0);
        Check.due("new fault(1)", x.fault(1), NONE);
        Check.due("new text(0)", x.text(0), 0);
        Check.due("new text(1)", x.text(1), -2);
        Check.due("new frame(0, 0)", x.frame(0, 0), NONE);
    }

    private static void feeding() {
        QueueKeeper x = new QueueKeeper();
        for (int i = 1; i <= 45; i++) {
            Check.due("feed " + i, x.feed(i, 0, -1, Integer.MIN_VALUE, Integer.MAX_VALUE), 20 * i);
        }
        Check.due("feed beyond 900", x.feed(0, 0, 0, 0, 0), NONE);
        Check.due("count(16)", x.count(16), 900);
        Check.due("text of bytes 0", x.text(900), NONE);
        Check.due("fault(1)", x.fault(1), 0);

        QueueKeeper y = new QueueKeeper();
        // "go 1", ";pas", "s 9;", then blanks: the highest byte of a number is the first.
        y.feed(0x676f2031, 0x3b706173, 0x7320393b, 0x20202020, 0x20202020);
        Check.due("text(12)", y.text(12), 2);
        Check.due("now", y.count(0), 9);
    }

    private static void takingTheTape() {
        QueueKeeper x = new QueueKeeper();
        Check.feed(x, "pass 5;pass 6;");
        Check.due("text(-1)", x.text(-1), -2);
        Check.due("text(21)", x.text(21), -2);
        Check.due("text(MIN)", x.text(Integer.MIN_VALUE), -2);
        Check.due("the tape stays", x.count(16), 20);
        Check.due("text(7)", x.text(7), 1);
        Check.due("only the first bytes count", x.count(0), 5);
        Check.due("the tape is empty", x.count(16), 0);
        Check.feed(x, "pass 5;nonsense");
        Check.due("text with a fault", x.text(20), NONE);
        Check.due("the tape is empty too", x.count(16), 0);
        Check.feed(x, "pass 5;nonsense");
        Check.due("a text beyond", x.text(40), -2);
        Check.due("fault of the one before", x.fault(0), 1);
        Check.due("its place", x.fault(1), 7);
        Check.due("fault(2)", x.fault(2), NONE);
        Check.due("fault(-1)", x.fault(-1), NONE);
        Check.due("empty text", x.text(0), 0);
        Check.due("no fault any more", x.fault(0), 0);
        Check.due("no place any more", x.fault(1), NONE);
        Check.due("all anew", x.count(0), 0);
    }

    private static void settings() {
        QueueKeeper x = Check.keeper("rate 1500;small 3000;limit 60;ways 4;sets 4;quantum 3000;"
            + "interval 999;target 99;");
        int[] wants = {99, 999, 3000, 60, 3000};
        for (int i = 0; i < wants.length; i++) {
            Check.due("count(" + (11 + i) + ")", x.count(11 + i), wants[i]);
        }
        Check.due("rate", x.count(17), 1500);
        Check.due("buckets", x.count(8), 16);
        Check.due("free ones", x.count(9), 16);
        QueueKeeper y = Check.keeper("target 1;interval 10;quantum 50;sets 1;ways 1;limit 1;small 0;rate 0;");
        Check.due("buckets", y.count(8), 1);
        Check.due("target", y.count(11), 1);
        Check.due("interval", y.count(12), 10);
        Check.due("quantum", y.count(13), 50);
        Check.due("limit", y.count(14), 1);
        Check.due("text anew", Check.text(y, "sets 3;"), 1);
        Check.due("ways as first told", y.count(8), 6);
        Check.due("target as first told", y.count(11), 5);
    }

    private static void everyWord() {
        QueueKeeper x = new QueueKeeper();
        Check.due("lines", Check.text(x, "sender 9 10 2 3 1;come 7 20 1;pass 4;go 1;run 2;"), 5);
        Check.dueRow("frame 0", Check.frameRow(x, 0), 7, 20, 1, 0, 2, 0, 1, 4);
        Check.due("frames of the sender", x.whose(1), 0);
        Check.due("now", x.count(0), 6);
        Check.due("senders", x.count(19), 1);
        x.watch(0, 0);
        Check.due("empty text", x.text(0), 0);
        Check.due("no watches", x.count(10), 0);
        Check.due("no senders", x.count(19), 0);
        Check.due("no frames", x.count(1), 0);
        Check.due("none stand", x.count(2), 0);
        Check.due("most stood", x.count(18), 0);
    }

    private static void blanks() {
        QueueKeeper x = new QueueKeeper();
        Check.due("blanks all about", Check.text(x, "\n  pass\n3 ;\n\n pass 004;  \n"), 2);
        Check.due("now", x.count(0), 7);
        Check.due("blanks alone", Check.text(x, " \n \n"), 0);
        Check.due("no blanks needed", Check.text(x, "pass3;come1 2 0;"), 2);
        Check.due("frame 0", x.frame(0, 0), 1);
    }

    private static void due(String text, int kind, int place) {
        QueueKeeper x = new QueueKeeper();
        Check.due("text \"" + text + "\"", Check.text(x, text), kind == 0 ? 1 : NONE);
        Check.due("fault of \"" + text + "\"", x.fault(0), kind);
        Check.due("place in \"" + text + "\"", x.fault(1), kind == 0 ? NONE : place);
    }

    private static void faultsOfTokens() {
        due(";", 1, 0);
        due("7;", 1, 0);
        due("walk 3;", 1, 0);
        due("passs 3;", 1, 0);
        due("pas 3;", 1, 0);
        due("pass 3", 1, 6);
        due("pass 3  ", 1, 8);
        due("pass", 1, 4);
        due("pass ;", 1, 5);
        due("pass go;", 1, 5);
        due("pass 3 4;", 1, 7);
        due("pass 3;;", 1, 7);
        due("pass -3;", 1, 5);
        due("pass 3\t;", 1, 6);
        due("pass 3,", 1, 6);
        due("pass 5x;", 1, 6);
        due("pass 5A;", 1, 6);
        due("Pass 5;", 1, 0);
        due("pasS 5;", 1, 0);
        due("come 1 1;", 1, 8);
        due("sender 1 1 1 1;", 1, 14);
        due("sender 1 1 1 1 1 1;", 1, 17);
        due("pass 3;\u00e9", 1, 7);
        due("pass 1;target 5;", 1, 7);
        due("come 1 1 0; sender 1 1 1 1 1;", 1, 12);
        due("go 1;rate 5;", 1, 5);
        due("run 1;small 5;", 1, 6);
    }

    private static void faultsOfNumbers() {
        String[] words = {"target", "interval", "quantum", "sets", "ways", "limit", "small", "rate", "pass",
            "go", "run"};
        int[] low = {1, 10, 50, 1, 1, 1, 0, 0, 1, 1, 1};
        int[] high = {99, 999, 3000, 4, 4, 60, 3000, 1500, 999, 60, 200};
        for (int i = 0; i < words.length; i++) {
            int place = words[i].length() + 1;
            due(words[i] + " " + low[i] + ";", 0, NONE);
            due(words[i] + " " + high[i] + ";", 0, NONE);
            due(words[i] + " " + (high[i] + 1) + ";", 2, place);
            if (low[i] > 0) {
                due(words[i] + " " + (low[i] - 1) + ";", 2, place);
            }
        }
        due("come 0 1 0;", 0, NONE);
        due("come 9999 1500 1;", 0, NONE);
        due("come 10000 1 0;", 2, 5);
        due("come 0 0 0;", 2, 7);
        due("come 0 1501 0;", 2, 7);
        due("come 0 1 2;", 2, 9);
        due("sender 0 1 1 1 0;", 0, NONE);
        due("sender 9999 1500 20 99 1;", 0, NONE);
        due("sender 10000 1 1 1 0;", 2, 7);
        due("sender 0 0 1 1 0;", 2, 9);
        due("sender 0 1501 1 1 0;", 2, 9);
        due("sender 0 1 0 1 0;", 2, 11);
        due("sender 0 1 21 1 0;", 2, 11);
        due("sender 0 1 1 0 0;", 2, 13);
        due("sender 0 1 1 100 0;", 2, 13);
        due("sender 0 1 1 1 2;", 2, 15);
        due("pass 4294967297;", 2, 5);
        due("pass 99999999999999999999999999;", 2, 5);
        due("pass 00000000000000000000000001;", 0, NONE);
        String four = "sender 1 1 1 1 0;sender 2 1 1 1 0;sender 3 1 1 1 0;sender 4 1 1 1 0;";
        due(four + "sender 5 1 1 1 0;", 2, four.length());
        due(four + "sender 1 1 1 1 0;", 2, four.length());
        due(four + "pass 1;sender 5 1 1 1 0;", 1, four.length() + 7);
    }

    private static void faultsToldAlready() {
        due("limit 3;limit 3;", 3, 8);
        due("rate 3;target 4;rate 9;", 3, 16);
        due("limit 3;go 1;limit 3;", 1, 13);
        due("sender 8 1 1 1 0;sender 8 1 1 1 0;", 3, 24);
        due("sender 8 1 1 1 0;limit 4;sender 9 1 1 1 0;sender 8 1 1 1 0;", 3, 49);
    }

    private static void theFirstFaultCounts() {
        due("limit 61;walk", 2, 6);
        due("limit 3;limit 61;", 3, 8);
        due("limit ;limit 61;", 1, 6);
        due("sender 8 1 1 1 0;sender 8 1501 1 1 0;", 3, 24);
        due("pass 1000", 2, 5);
    }

    /** What a keeper was before a text is nothing to it. */
    private static void textForgetsAll() {
        String busy = "target 1;interval 10;limit 9;sets 4;ways 4;sender 7 90 20 3 0;sender 2 40 9 5 1;run 60;";
        String next = "sender 4 30 3 2 1;sender 8 400 2 2 0;come 3 20 0;run 7;";
        QueueKeeper used = Check.keeper(busy);
        used.watch(0, 0);
        used.run(9);
        Check.text(used, next);
        QueueKeeper fresh = Check.keeper(next);
        used.watch(0, 0);
        fresh.watch(0, 0);
        used.run(5);
        fresh.run(5);
        for (int what = 0; what < 20; what++) {
            Check.due("count(" + what + ") of a used one", used.count(what), fresh.count(what));
        }
        for (int k = 0; k < 4; k++) {
            Check.dueRow("bucket " + k + " of a used one", Check.bucketRow(used, k), Check.bucketRow(fresh, k));
            Check.due("order(" + k + ") of a used one", used.order(k), fresh.order(k));
        }
        for (int k = 0; k < 3; k++) {
            Check.dueRow("sender " + k + " of a used one", Check.senderRow(used, k), Check.senderRow(fresh, k));
        }
        for (int f = 0; f <= fresh.count(1); f++) {
            Check.dueRow("frame " + f + " of a used one", Check.frameRow(used, f), Check.frameRow(fresh, f));
        }
        Check.due("watched(0) of a used one", used.watched(0), fresh.watched(0));
        Check.due("ifRun of a used one", used.ifRun(100, 4), fresh.ifRun(100, 4));
    }

    private static void refusedTextChangesNothing() {
        QueueKeeper x = Check.keeper("limit 7;sender 9 10 2 3 1;come 1 30 0;pass 4;");
        x.watch(5, 1);
        Check.text(x, "limit 9;sets 1;come 4 4 1;go 1;pass 0;");
        Check.due("limit", x.count(14), 7);
        Check.due("buckets", x.count(8), 4);
        Check.due("now", x.count(0), 4);
        Check.due("frames", x.count(1), 1);
        Check.due("senders", x.count(19), 1);
        Check.due("watches", x.count(10), 1);
        Check.due("its key", x.frame(0, 0), 1);
    }
}
