/** Boundary cases of Terms 1 and of promises 1 to 4: what a text may be, its faults, the tape. */
final class EdgesText extends Edge {
    private static final String[] WORDS = {"target", "interval", "quantum", "sets", "ways", "limit", "small",
        "rate", "sender", "come", "pass", "go", "run"};
    private static final String[] NUMBERS = {"1", "10", "50", "1", "1", "1", "0", "0", "0 1 1 1 0", "0 1 0", "1",
        "1", "1"};
    private static final String FOUR =
        "sender 1 1 1 1 0;sender 2 1 1 1 0;sender 3 1 1 1 0;sender 4 1 1 1 0;";

    static void all() {
        linesEndWithStops();
        numbersOfLines();
        digits();
        blanks();
        settingsAheadOfOthers();
        rangesOfSettings();
        rangesOfComes();
        rangesOfPassGoRun();
        rangesOfSenders();
        doneAsTheyStand();
        firstFault();
        tokensThatAreNone();
        tokensThatCannotStand();
        tooMuch();
        toldAlready();
        newObject();
        feeding();
        fullTape();
        firstBytesOfTheTape();
        allAnew();
        faultChangesNothing();
        notSoMany();
        faultOfTheLatest();
        faultOfAnotherWhat();
    }

    private static String line(int word) {
        return WORDS[word] + " " + NUMBERS[word] + ";";
    }

    private static void linesEndWithStops() {
        terms("A TEXT: { LINE ';' }.");
        fine("", 0);
        fine("pass 1;", 1);
        fine("pass 1;pass 1;", 2);
        fault(";", 1, 0);
        fault(";pass 1;", 1, 0);
        fault("pass 1;;", 1, 7);
        fault("pass 1", 1, 6);
        fault("pass 1 pass 1;", 1, 7);
    }

    private static void numbersOfLines() {
        terms("LINE: target N | interval N | quantum N | sets N | ways N | limit N | small N | rate N | "
            + "sender N N N N N | come N N N | pass N | go N | run N.");
        for (int word = 0; word < WORDS.length; word++) {
            String line = line(word);
            fine(line, 1);
            int last = line.lastIndexOf(' ');
            fault(line.substring(0, last) + ";", 1, last);
            fault(line.substring(0, line.length() - 1) + " 1;", 1, line.length());
            fault(WORDS[word] + ";", 1, WORDS[word].length());
        }
    }

    private static void digits() {
        terms("N: digits.");
        QueueKeeper x = new QueueKeeper();
        is("zeros ahead", Check.text(x, "pass 00000000000000000000000000000000000007;"), 1);
        is("they are nothing", x.count(0), 7);
        is("all ten digits", Check.text(x, "come 1234 567 0;come 89 1 0;"), 2);
        is("frame(0, 0)", x.frame(0, 0), 1234);
        is("frame(0, 1)", x.frame(0, 1), 567);
        is("frame(1, 0)", x.frame(1, 0), 89);
        fault("pass -1;", 1, 5);
        fault("pass +1;", 1, 5);
        fault("pass 1.5;", 1, 6);
        fault("pass 1e1;", 1, 6);
        // '/' is just below '0', ':' just above '9'.
        fault("pass /;", 1, 5);
        fault("pass :;", 1, 5);
        fault("pass 1/;", 1, 6);
        fault("pass 1:;", 1, 6);
    }

    private static void blanks() {
        terms("Blanks 10, 32.");
        fine("\n pass \n 1 \n ; \n", 1);
        fine("   ", 0);
        fine("\n\n", 0);
        fault("pa ss 1;", 1, 0);
        fault("pass 1 0;", 1, 7);
        fault("pass 1\n0;", 1, 7);
        for (int sign = 0; sign < 256; sign++) {
            boolean isBlank = sign == 10 || sign == 32;
            if (isBlank) {
                fine("pass 1;" + (char) sign, 1);
                fine("pass" + (char) sign + "1;", 1);
            } else {
                fault("pass 1;" + (char) sign, 1, 7);
            }
        }
    }

    private static void settingsAheadOfOthers() {
        terms("The first eight are SETTINGS, ahead of come, pass, go, run; so is sender:");
        for (int early = 0; early <= 8; early++) {
            for (int other = 9; other < WORDS.length; other++) {
                fine(line(early) + line(other), 2);
                fault(line(other) + line(early), 1, line(other).length());
            }
        }
        for (int setting = 0; setting < 8; setting++) {
            fine("sender 3 1 1 1 0;" + line(setting) + "sender 4 1 1 1 0;", 3);
        }
    }

    private static void range(String word, int low, int high) {
        fine(word + " " + low + ";", 1);
        fine(word + " " + high + ";", 1);
        fault(word + " " + (high + 1) + ";", 2, word.length() + 1);
        if (low > 0) {
            fault(word + " " + (low - 1) + ";", 2, word.length() + 1);
        }
        fault(word + " 4294967296;", 2, word.length() + 1);
    }

    private static void setting(String word, int low, int high, int first, int told) {
        range(word, low, high);
        is(word + " at first", new QueueKeeper().count(told), first);
        is(word + " untold", keeper("pass 1;").count(told), first);
        is(word + " " + low, keeper(word + " " + low + ";").count(told), low);
        is(word + " " + high, keeper(word + " " + high + ";").count(told), high);
    }

    private static void rangesOfSettings() {
        terms("TARGET 1 .. 99 (5),");
        setting("target", 1, 99, 5, 11);
        terms("INTERVAL 10 .. 999 (100),");
        setting("interval", 10, 999, 100, 12);
        terms("QUANTUM 50 .. 3000 (300),");
        setting("quantum", 50, 3000, 300, 13);
        terms("SETS 1 .. 4 (2),");
        range("sets", 1, 4);
        is("buckets at first", new QueueKeeper().count(8), 4);
        is("sets 1", keeper("sets 1;").count(8), 2);
        is("sets 4", keeper("sets 4;").count(8), 8);
        is("the second set at first", new QueueKeeper().load(1) > 0 ? 1 : 0, 1);
        is("no third set at first", new QueueKeeper().load(2), NONE);
        terms("WAYS 1 .. 4 (2),");
        range("ways", 1, 4);
        is("ways 1", keeper("ways 1;").count(8), 2);
        is("ways 4", keeper("ways 4;").count(8), 8);
        is("sets 4, ways 4", keeper("ways 4;sets 4;").count(8), 16);
        is("ways at first", keeper("sets 1;").count(8), 2);
        terms("LIMIT 1 .. 60 (40),");
        setting("limit", 1, 60, 40, 14);
        terms("SMALL 0 .. 3000 (0),");
        setting("small", 0, 3000, 0, 15);
        terms("RATE 0 .. 1500 (0).");
        setting("rate", 0, 1500, 0, 17);
    }

    private static void rangesOfComes() {
        terms("come: a FRAME COMES: its KEY 0 .. 9999, BYTES 1 .. 1500, MAY 0, 1.");
        QueueKeeper x = keeper("come 0 1 0;come 9999 1500 1;");
        Check.dueRow("the least", Check.frameRow(x, 0), 0, 1, 0, 0, 0, 0, 0, -2);
        Check.dueRow("the most", Check.frameRow(x, 1), 9999, 1500, 1, 0, 1, 0, 0, -2);
        fault("come 10000 1 0;", 2, 5);
        fault("come 0 0 0;", 2, 7);
        fault("come 0 1501 0;", 2, 7);
        fault("come 0 1 2;", 2, 9);
        fault("come 0 1 10;", 2, 9);
    }

    private static void rangesOfPassGoRun() {
        terms("pass: 1 .. 999: NOW is so much more.");
        range("pass", 1, 999);
        is("pass 1", keeper("pass 1;").count(0), 1);
        is("pass 999, 999", keeper("pass 999;pass 999;").count(0), 1998);

        terms("go: 1 .. 60: so many are SERVED.");
        range("go", 1, 60);
        StringBuilder sixty = new StringBuilder("limit 60;");
        for (int i = 0; i < 60; i++) {
            sixty.append("come1 1 0;");
        }
        is("go 1", keeper(sixty + "go 1;").count(4), 1);
        is("go 59", keeper(sixty + "go 59;").count(4), 59);
        is("go 60", keeper(sixty + "go 60;").count(4), 60);
        is("go beyond what stands", keeper("come 1 1 0;go 60;").count(4), 1);
        is("go of none", keeper("go 60;").count(4), 0);

        terms("run: 1 .. 200: so many TICKS.");
        range("run", 1, 200);
        is("run 1", keeper("run 1;").count(0), 1);
        is("run 200", keeper("run 200;").count(0), 200);
    }

    private static void rangesOfSenders() {
        terms("sender, at most 4, numbered as they come: KEY 0 .. 9999, BYTES 1 .. 1500, WINDOW 1 .. 20 (100 times "
            + "that), DELAY 1 .. 99, MAY 0, 1.");
        QueueKeeper x = keeper("sender 0 1 1 1 0;sender 9999 1500 20 99 1;sender 7 2 3 4 0;sender 6 5 4 3 1;");
        Check.dueRow("the least", Check.senderRow(x, 0), 0, 1, 100, 1, 0, 0, 0, -2, 0);
        Check.dueRow("the most", Check.senderRow(x, 1), 9999, 1500, 2000, 99, 1, 0, 0, -2, 0);
        Check.dueRow("the third", Check.senderRow(x, 2), 7, 2, 300, 4, 0, 0, 0, -2, 0);
        Check.dueRow("the fourth", Check.senderRow(x, 3), 6, 5, 400, 3, 1, 0, 0, -2, 0);
        is("senders", x.count(19), 4);
        fault("sender 10000 1 1 1 0;", 2, 7);
        fault("sender 0 0 1 1 0;", 2, 9);
        fault("sender 0 1501 1 1 0;", 2, 9);
        fault("sender 0 1 0 1 0;", 2, 11);
        fault("sender 0 1 21 1 0;", 2, 11);
        fault("sender 0 1 1 0 0;", 2, 13);
        fault("sender 0 1 1 100 0;", 2, 13);
        fault("sender 0 1 1 1 2;", 2, 15);
        fault(FOUR + "sender 5 1 1 1 0;", 2, FOUR.length());
    }

    private static void doneAsTheyStand() {
        terms("They are done as they stand.");
        QueueKeeper x = keeper("come 1 9 0;pass 3;come 1 8 0;go 1;pass 4;run 2;");
        Check.dueRow("came at 0, sent at 3", Check.frameRow(x, 0), 1, 9, 0, 0, 0, 0, 1, 3);
        Check.dueRow("came at 3, sent at 7", Check.frameRow(x, 1), 1, 8, 0, 3, 0, 0, 1, 7);
        is("now", x.count(0), 9);
        // Served before one comes, then behind it.
        is("go ahead of come", keeper("go 1;come 1 9 0;").count(2), 1);
        is("come ahead of go", keeper("come 1 9 0;go 1;").count(2), 0);
    }

    private static void firstFault() {
        terms("FAULTS, the first along the text (of one place the least), with its place:");
        fault("limit 61;walk", 2, 6);
        fault("walk;limit 61;", 1, 0);
        fault("limit 3;limit 61;", 3, 8);
        fault("limit 61;limit 3;", 2, 6);
        fault("sender 8 1 1 1 0;sender 8 1501 1 1 0;", 3, 24);
        fault("sender 8 1 1 1 0;sender 9 1501 1 1 0;sender 8 1 1 1 0;", 2, 26);
        fault("pass 1000", 2, 5);
        // 1 and 3 at one word, 1 and 2 at one word.
        fault("limit 3;pass 1;limit 3;", 1, 15);
        fault(FOUR + "pass 1;sender 5 1 1 1 0;", 1, FOUR.length() + 7);
        // The word of a fifth sender is ahead of its key, which is told already.
        fault(FOUR + "sender 1 1 1 1 0;", 2, FOUR.length());
        fault("  limit 61;", 2, 8);
    }

    private static void tokensThatAreNone() {
        terms("1 a TOKEN that is none (a word that isn't of the language, too)");
        fault("walk 3;", 1, 0);
        fault("pas 3;", 1, 0);
        fault("passs 3;", 1, 0);
        fault("p 3;", 1, 0);
        fault("comego 3;", 1, 0);
        fault("Pass 3;", 1, 0);
        fault("PASS 3;", 1, 0);
        fault("pass 3;x", 1, 7);
        fault("pass x;", 1, 5);
        fault("pass 3x", 1, 6);
        fault("pass 3,", 1, 6);
        // '`' is just below 'a', '{' just above 'z'.
        fault("`pass 3;", 1, 0);
        fault("{pass 3;", 1, 0);
        fault("pass`3;", 1, 4);
        fault("pass{3;", 1, 4);
        for (String word : WORDS) {
            fault(word.substring(0, word.length() - 1) + " 1;", 1, 0);
            fault(word.substring(1) + " 1;", 1, 0);
            fault(word + "a 1;", 1, 0);
            fault(word + "z 1;", 1, 0);
            for (int i = 0; i < word.length(); i++) {
                fault(word.substring(0, i) + "z" + word.substring(i + 1) + " 1;", 1, 0);
            }
        }
    }

    private static void tokensThatCannotStand() {
        terms("or can't stand there (the length, if more must come; a SETTING, sender behind others).");
        fault("3;", 1, 0);
        fault("pass pass;", 1, 5);
        fault("pass 3 pass", 1, 7);
        for (int word = 0; word < WORDS.length; word++) {
            String line = line(word);
            fault(WORDS[word], 1, WORDS[word].length());
            fault(line.substring(0, line.length() - 1), 1, line.length() - 1);
            fault(line.substring(0, line.length() - 1) + " \n ", 1, line.length() + 2);
        }
        fault("come 1", 1, 6);
        fault("come 1 1", 1, 8);
        fault("sender 1 1 1 1", 1, 14);
        QueueKeeper x = new QueueKeeper();
        Check.feed(x, "pass 1;pass 2;");
        is("the length is that of the text, not of the tape", x.text(11), NONE);
        is("fault(0)", x.fault(0), 1);
        is("fault(1)", x.fault(1), 11);
        Check.feed(x, "pass 1;pass 12;");
        is("a number that goes on behind the text", x.text(13), NONE);
        is("fault(1)", x.fault(1), 13);
        Check.feed(x, "pass 1;passs 2;");
        is("a word that goes on behind the text", x.text(11), NONE);
        is("fault(1)", x.fault(1), 11);
        Check.feed(x, "pass 1;pass 12;");
        is("a word that goes on behind the text", x.text(9), NONE);
        is("fault(1)", x.fault(1), 7);
        fault("pass 1;limit 3;", 1, 7);
        fault("pass 1;sender 1 1 1 1 0;", 1, 7);
        fault("pass 1;limit 3", 1, 7);
    }

    private static void tooMuch() {
        terms("2 too much (at it): a number beyond what is said; a 201st come, a fifth sender (at the word).");
        fault("limit 61;", 2, 6);
        fault("limit   0;", 2, 8);
        fault("pass 4294967297;", 2, 5);
        fault("pass 18446744073709551617;", 2, 5);
        fault("pass 10000000000000000000000000000000000000000;", 2, 5);
        fine(FOUR, 4);
        fault(FOUR + "sender 5 1 1 1 0;", 2, FOUR.length());
        fault(FOUR + "sender", 2, FOUR.length());
        // A 201st come can't stand on a tape of 900 bytes: a LINE of it takes ten.
        StringBuilder comes = new StringBuilder();
        for (int i = 0; i < 90; i++) {
            comes.append("come").append(i % 10).append(" 1 0;");
        }
        fine(comes.toString(), 90);
        // Those of earlier texts don't count, nor do other LINES.
        QueueKeeper x = new QueueKeeper();
        for (int i = 0; i < 3; i++) {
            is("text " + i, Check.text(x, comes.toString()), 90);
        }
        is("225 LINES", Check.text(x, "go1;".repeat(225)), 225);
    }

    private static void toldAlready() {
        terms("3 told already: a SETTING (at the word), a sender of that KEY (at its KEY).");
        for (int setting = 0; setting < 8; setting++) {
            String line = line(setting);
            fault(line + line, 3, line.length());
            for (int other = 0; other < 8; other++) {
                if (other != setting) {
                    fine(line + line(other), 2);
                    fault(line + line(other) + line, 3, line.length() + line(other).length());
                }
            }
        }
        fault("sender 8 1 1 1 0;sender 8 1 1 1 0;", 3, 24);
        fault("sender 8 1 1 1 0;sender 9 1 1 1 0;sender 9 1 1 1 0;", 3, 41);
        fault("sender 8 1 1 1 0;sender 9 1 1 1 0;sender 8 1 1 1 0;", 3, 41);
        fault("sender 5 1 1 1 0;sender 8 1 1 1 0;sender 9 1 1 1 0;sender 008 1 1 1 0;", 3, 58);
        fine("sender 1 2 3 4 0;sender 2 2 3 4 0;", 2);
        // What an earlier text told is forgotten.
        QueueKeeper x = keeper("limit 3;sender 8 1 1 1 0;");
        is("told anew", Check.text(x, "limit 3;sender 8 1 1 1 0;"), 2);
        QueueKeeper y = new QueueKeeper();
        Check.text(y, "limit 3;sender 8 1 1 1 0;pass 1;walk");
        is("told anew behind a fault", Check.text(y, "limit 3;sender 8 1 1 1 0;"), 2);
    }

    private static void newObject() {
        promise(1, "All as first told, no FRAMES; an empty TAPE.");
        QueueKeeper x = new QueueKeeper();
        int[] first = {0, 0, 0, 0, 0, 0, 0, 0, 4, 4, 0, 5, 100, 300, 40, 0, 0, 0, 0, 0, NONE};
        for (int what = 0; what < first.length; what++) {
            is("count(" + what + ")", x.count(what), first[what]);
        }
        for (int k = 0; k < 4; k++) {
            is("TAG of " + k, x.bucket(k, 0), ABSENT);
            is("LIST of " + k, x.bucket(k, 4), 0);
            is("inBucket(" + k + ", 0)", x.inBucket(k, 0), ABSENT);
        }
        is("frame(0, 0)", x.frame(0, 0), NONE);
        is("whose(0)", x.whose(0), NONE);
        is("sender(0, 0)", x.sender(0, 0), NONE);
        is("watched(0)", x.watched(0), ABSENT);
        is("order(0)", x.order(0), ABSENT);
        is("text(1)", x.text(1), ABSENT);
        is("text(0)", x.text(0), 0);
        // A text makes all anew, so an empty one changes nothing.
        QueueKeeper y = new QueueKeeper();
        use(x);
        use(y);
        same("without a text", y, x);
        QueueKeeper z = new QueueKeeper();
        z.come(5, 1, 0);
        is("order(0)", z.order(0), 2);
        is("go", z.go(), 0);
        is("only one is SENT", z.past(0, 1), ABSENT);
    }

    private static void feeding() {
        promise(2, "Twenty bytes come behind the TAPE, four of each number, the highest first: how many it has;");
        QueueKeeper x = new QueueKeeper();
        // "pass" " 12;" "pass" " 3;p" "ass ", then "4;  " and blanks.
        is("feed", x.feed(0x70617373, 0x2031323b, 0x70617373, 0x20333b70, 0x61737320), 20);
        is("feed", x.feed(0x343b2020, 0x20202020, 0x20202020, 0x20202020, 0x20202020), 40);
        is("count(16)", x.count(16), 40);
        is("text(40)", x.text(40), 3);
        is("now", x.count(0), 19);
        // Bytes above 127 are no blanks and none of a number's is lost by its sign.
        int[] numbers = {0x80202020, 0xff202020, 0x20ff2020, 0x20208020, 0x202020ff, -1, MIN};
        int[] places = {0, 0, 1, 2, 3, 0, 0};
        for (int i = 0; i < numbers.length; i++) {
            is("feed", x.feed(numbers[i], 0x20202020, 0x20202020, 0x20202020, 0x20202020), 20);
            is("text(20)", x.text(20), NONE);
            is("fault(1) with " + numbers[i], x.fault(1), places[i]);
            is("feed", x.feed(0x20202020, 0x20202020, 0x20202020, 0x20202020, numbers[i]), 20);
            is("text(20)", x.text(20), NONE);
            is("fault(1) with " + numbers[i] + " at last", x.fault(1), 16 + places[i]);
        }
    }

    private static void fullTape() {
        promise(2, "NONE, and none come, if it would have more than 900.");
        QueueKeeper x = new QueueKeeper();
        for (int i = 1; i <= 44; i++) {
            is("feed " + i, x.feed(0x20202020, 0x20202020, 0x20202020, 0x20202020, 0x20202020), 20 * i);
        }
        // The last twenty bytes: "            pass 17;".
        is("up to 900", x.feed(0x20202020, 0x20202020, 0x20202020, 0x70617373, 0x2031373b), 900);
        is("beyond", x.feed(0x20202020, 0x20202020, 0x20202020, 0x20202020, 0x20202020), NONE);
        is("still 900", x.count(16), 900);
        is("beyond once more", x.feed(-1, -1, -1, -1, -1), NONE);
        is("text(901)", x.text(901), ABSENT);
        is("all 900 bytes", x.text(900), 1);
        is("the last ones too", x.count(0), 17);
        is("the tape is empty: there is room", x.feed(0, 0, 0, 0, 0), 20);
    }

    private static void firstBytesOfTheTape() {
        promise(3, "The TAPE's first n bytes (it is empty then) are the TEXT");
        QueueKeeper x = new QueueKeeper();
        Check.feed(x, "pass 5;pass 6;      ");
        is("text(7)", x.text(7), 1);
        is("not the other bytes", x.count(0), 5);
        is("those are gone too", x.count(16), 0);
        Check.feed(x, "pass 5;pass 6;      ");
        is("text(0) of a tape", x.text(0), 0);
        is("it is empty then", x.count(16), 0);
        is("now", x.count(0), 0);
        Check.feed(x, "pass 5;pass 6;      ");
        is("all of it", x.text(20), 2);
        is("now", x.count(0), 11);
        Check.feed(x, "walk");
        is("a fault", x.text(20), NONE);
        is("it is empty then, too", x.count(16), 0);
        Check.feed(x, "pass 7;");
        is("behind a fault the next text begins at 0", x.text(7), 1);
        is("now", x.count(0), 7);
    }

    private static void allAnew() {
        promise(3, "(all anew ahead of it, no WATCHES): how many LINES;");
        String busy = "target 7;interval 20;quantum 60;sets 4;ways 4;limit 2;small 9;rate 3;sender 4 50 3 2 1;"
            + "come 1 9 0;come 1 9 0;come 2 9 0;pass 50;go 2;come 9 9 0;run 3;";
        QueueKeeper x = keeper(busy);
        x.watch(0, 0);
        x.watch(4, 0);
        x.go();
        is("the empty text", x.text(0), 0);
        same("as a new object", x, new QueueKeeper());
        is("no sender", x.sender(0, 0), NONE);
        is("no frame", x.frame(0, 0), NONE);
        is("watch", x.watch(0, 0), 0);
        is("which begins at 0", x.watched(0), 0);
        Check.text(x, busy);
        same("the same text once more", x, keeper(busy));
        // Frames stand, in NEW and OLD, with ABOVE, DROPPING: nothing of it is left.
        String late = "target 1;interval 10;quantum 50;sets 4;ways 4;limit 60;sender 4 90 20 2 1;sender 5 60 20 2 0;"
            + "come 0 30 0;come 1 70 0;come 2 9 0;come 3 9 0;run 40;come 1 9 0;come 3 9 0;";
        QueueKeeper y = keeper(late);
        is("some stand", y.count(2) > 9 ? 1 : 0, 1);
        is("DROPPING", y.bucket(y.bucketFor(4), 7), 1);
        is("ABOVE", y.bucket(y.bucketFor(4), 9) > 0 ? 1 : 0, 1);
        is("in OLD", y.bucket(y.bucketFor(4), 4), 2);
        is("in NEW", y.bucket(y.bucketFor(3), 4), 1);
        y.text(0);
        same("nothing is left", y, new QueueKeeper());
        QueueKeeper z = new QueueKeeper();
        use(y);
        use(z);
        same("nor later on", y, z);
        // A BUCKET that is the only one of NEW.
        QueueKeeper w = keeper("come 5 9 0;come 5 9 0;come 5 9 0;pass 6;go 2;");
        is("ABOVE", w.bucket(2, 9), 106);
        w.text(0);
        same("nothing is left of one", w, new QueueKeeper());
        for (int what = 0; what < 4; what++) {
            is("flow(5, " + what + ")", w.flow(5, what), what == 2 ? ABSENT : 0);
        }
        is("least(2)", w.least(2), ABSENT);
        come(w, 5, 1, 9, 0);
        is("nothing stands in 2", w.inBucket(2, 0), ABSENT);
        is("nothing waits in 2", w.eldest(2, 0), ABSENT);
        w.come(7, 9, 0);
        Check.dueRow("order", new int[] {w.order(0), w.order(1), w.order(2)}, 0, 2, -2);
        Check.dueRow("bucket 0", new int[] {w.inBucket(0, 0), w.inBucket(0, 4), w.inBucket(0, 5)}, 0, 4, -2);
        Check.dueRow("bucket 2", new int[] {w.inBucket(2, 0), w.inBucket(2, 1)}, 5, -2);
        QueueKeeper v = keeper("come 5 9 0;come 5 9 0;");
        v.text(0);
        v.come(7, 9, 0);
        Check.dueRow("order", new int[] {v.order(0), v.order(1)}, 2, -2);
        is("LINES of it", Check.text(x, busy), 16);
        is("LINES of blanks", Check.text(x, " \n"), 0);
    }

    private static void faultChangesNothing() {
        promise(3, "NONE with a FAULT, all else stays;");
        String busy = "limit 7;interval 20;sender 9 10 2 3 1;come 1 30 0;come 5 40 1;pass 4;go 1;run 3;";
        String[] bad = {"limit 9;sets 1;come 4 4 1;go 1;pass 0;", "walk", "come 1 1 0;run 9", "sender 1 1 1 1 0;"
            + "sender 1 1 1 1 0;", "target 9;target 9;", ";"};
        for (String text : bad) {
            QueueKeeper x = keeper(busy);
            QueueKeeper y = keeper(busy);
            x.watch(5, 1);
            y.watch(5, 1);
            is("text \"" + text + "\"", Check.text(x, text), NONE);
            is("a fault", x.fault(0) > 0 ? 1 : 0, 1);
            Check.text(y, "walk");
            Check.text(x, "walk");
            same("behind \"" + text + "\"", x, y);
            is("run", x.run(20), y.run(20));
            same("later on behind \"" + text + "\"", x, y);
        }
    }

    private static void notSoMany() {
        promise(3, "-2, and the TAPE stays: there are not so many, n is below 0.");
        QueueKeeper x = keeper("pass 3;");
        Check.feed(x, "pass 5;pass 6;      ");
        for (int n : new int[] {21, 40, 900, 901, MAX, -1, -20, MIN}) {
            is("text(" + n + ")", x.text(n), ABSENT);
            is("the tape behind text(" + n + ")", x.count(16), 20);
        }
        is("now stays", x.count(0), 3);
        is("no fault", x.fault(0), 0);
        is("text(20)", x.text(20), 2);
        is("now", x.count(0), 11);
        is("text(1) of an empty tape", x.text(1), ABSENT);
        is("text(-1) of an empty tape", x.text(-1), ABSENT);
        is("text(0) of an empty tape", x.text(0), 0);
    }

    private static void faultOfTheLatest() {
        promise(4, "Of the latest text() that was not -2, what 0: its FAULT (0), 1: its place (NONE without).");
        QueueKeeper x = new QueueKeeper();
        is("fault(0) without a text", x.fault(0), 0);
        is("fault(1) without a text", x.fault(1), NONE);
        is("text -2", x.text(5), ABSENT);
        is("fault(0) still without", x.fault(0), 0);
        is("fault(1) still without", x.fault(1), NONE);
        String[] texts = {"walk", "pass 0;", "limit 1;limit 1;", "pass 1;"};
        int[] places = {0, 5, 8, NONE};
        for (int i = 0; i < texts.length; i++) {
            Check.text(x, texts[i]);
            is("fault(0) of " + texts[i], x.fault(0), (i + 1) % 4);
            is("fault(1) of " + texts[i], x.fault(1), places[i]);
            is("text -2", x.text(-1), ABSENT);
            is("fault(0) is still that of " + texts[i], x.fault(0), (i + 1) % 4);
            is("fault(1) is still that of " + texts[i], x.fault(1), places[i]);
        }
        Check.text(x, "walk");
        is("text(0) has no fault", x.text(0), 0);
        is("fault(0)", x.fault(0), 0);
        is("fault(1)", x.fault(1), NONE);
    }

    private static void faultOfAnotherWhat() {
        promise(4, "NONE for another what.");
        QueueKeeper x = new QueueKeeper();
        Check.text(x, "pass 0;");
        for (int what : new int[] {-1, 2, 3, MIN, MAX}) {
            is("fault(" + what + ")", x.fault(what), NONE);
        }
    }
}
