import java.io.IOException;
import java.nio.file.Files;
import java.nio.file.Path;
import java.util.ArrayList;
import java.util.List;
import java.util.regex.Matcher;
import java.util.regex.Pattern;

/**
 * What the tests of boundary cases share. Each begins by naming the sentence of the document that it
 * holds the class to, and that sentence must stand there; EdgesTest looks that none is left out.
 */
abstract class Edge {
    static final int NONE = QueueKeeper.NONE;
    static final int ABSENT = -2;
    static final int MIN = Integer.MIN_VALUE;
    static final int MAX = Integer.MAX_VALUE;

    private static final Path DOCUMENT = Path.of("../shared/DOC.md");
    private static final int PROMISES = 40;

    /** Terms are part 0, promises have their own numbers, what it is goes behind them. */
    private static final int WHAT_IT_IS = PROMISES + 1;
    private static final String[] TITLES = new String[PROMISES + 2];
    private static final String[] TEXTS = new String[PROMISES + 2];
    private static final boolean[][] NAMED = new boolean[PROMISES + 2][];
    private static boolean isRead = false;

    /** Names a sentence of the document's Terms. */
    static void terms(String sentence) {
        names(0, sentence);
    }

    /** Names a sentence of a promise. */
    static void promise(int number, String sentence) {
        names(number, sentence);
    }

    /** Names a sentence of the document's begin. */
    static void whatItIs(String sentence) {
        names(WHAT_IT_IS, sentence);
    }

    private static void names(int part, String sentence) {
        readDocument();
        String title = part == 0 ? "Terms" : part == WHAT_IT_IS ? "What it is" : "Promise " + part;
        Check.under(title + ", \"" + sentence + "\"");
        if (TEXTS[part] == null) {
            return;
        }
        int at = TEXTS[part].indexOf(sentence);
        Check.due("the sentence stands in the document", at >= 0 ? 1 : 0, 1);
        for (int i = at; at >= 0 && i < at + sentence.length(); i++) {
            NAMED[part][i] = true;
        }
    }

    /** Without the document nothing is read, and sentences are named for the reader alone. */
    private static void readDocument() {
        if (isRead || !Files.exists(DOCUMENT)) {
            return;
        }
        isRead = true;
        String text;
        try {
            text = Files.readString(DOCUMENT);
        } catch (IOException e) {
            throw new IllegalStateException(e);
        }
        Matcher parts = Pattern.compile("(?sm)^## (What it is|Terms|Promise (\\d+): [^\n]*)\n(.*?)(?=^## )").matcher(text);
        while (parts.find()) {
            int other = parts.group(1).equals("Terms") ? 0 : WHAT_IT_IS;
            int part = parts.group(2) == null ? other : Integer.parseInt(parts.group(2));
            boolean isKnown = parts.group(2) == null || part <= PROMISES;
            Check.due("a part that is known: " + parts.group(1), isKnown ? 1 : 0, 1);
            if (isKnown) {
                TITLES[part] = parts.group(1);
                TEXTS[part] = parts.group(3).replaceAll("\\s+", " ");
                NAMED[part] = new boolean[TEXTS[part].length()];
            }
        }
    }

    /** What no test has named, but for signatures, fences and the numbers of parts. */
    static List<String> unnamed() {
        List<String> left = new ArrayList<>();
        for (int part = 0; part <= PROMISES; part++) {
            if (TEXTS[part] == null) {
                continue;
            }
            StringBuilder rest = new StringBuilder();
            for (int i = 0; i < TEXTS[part].length(); i++) {
                rest.append(NAMED[part][i] ? '\n' : TEXTS[part].charAt(i));
            }
            String plain = rest.toString().replaceAll("```(text)?|`[^`\n]*`:?|====( \\d\\.)?", "");
            for (String piece : plain.split("\n+")) {
                if (!piece.isBlank()) {
                    left.add(TITLES[part] + ": " + piece.trim());
                }
            }
        }
        return left;
    }

    static void is(String call, long got, long want) {
        Check.due(call, got, want);
    }

    static QueueKeeper keeper(String text) {
        return Check.keeper(text);
    }

    /** A text on a new keeper has so many lines and no fault. */
    static void fine(String text, int lines) {
        QueueKeeper x = new QueueKeeper();
        is("text \"" + text + "\"", Check.text(x, text), lines);
        is("fault(0) of \"" + text + "\"", x.fault(0), 0);
        is("fault(1) of \"" + text + "\"", x.fault(1), NONE);
    }

    /** A text on a new keeper has a fault at a place. */
    static void fault(String text, int kind, int place) {
        QueueKeeper x = new QueueKeeper();
        is("text \"" + text + "\"", Check.text(x, text), NONE);
        is("fault(0) of \"" + text + "\"", x.fault(0), kind);
        is("fault(1) of \"" + text + "\"", x.fault(1), place);
    }

    static void come(QueueKeeper x, int frames, int key, int bytes, int may) {
        for (int i = 0; i < frames; i++) {
            x.come(key, bytes, may);
        }
    }

    /** Time moves by any number of calls, as pass takes at most 999. */
    static void passTo(QueueKeeper x, int now) {
        while (x.count(0) < now) {
            x.pass(Math.min(999, now - x.count(0)));
        }
    }

    /** The name of what bucket throws, or what it answers. */
    static String bucket(QueueKeeper x, int k, int what) {
        try {
            return String.valueOf(x.bucket(k, what));
        } catch (RuntimeException e) {
            return e.getClass().getSimpleName();
        }
    }

    static void isText(String call, String got, String want) {
        Check.due(call + " (" + got + ", due " + want + ")", got.equals(want) ? 1 : 0, 1);
    }

    /** Everything that questions tell of a keeper's state, but for what is tried. */
    static List<String> tale(QueueKeeper x) {
        List<String> tale = new ArrayList<>();
        for (int what = 0; what < 20; what++) {
            tale.add("count(" + what + ") " + x.count(what));
        }
        for (int k = 0; k < x.count(8); k++) {
            for (int what = 0; what < 11; what++) {
                tale.add("bucket(" + k + ", " + what + ") " + x.bucket(k, what));
            }
            tale.add("least(" + k + ") " + x.least(k));
            tale.add("order(" + k + ") " + x.order(k));
            tale.add("inBucket(" + k + ", 0) " + x.inBucket(k, 0));
        }
        for (int f = 0; f < x.count(1); f++) {
            for (int what = 4; what < 8; what++) {
                tale.add("frame(" + f + ", " + what + ") " + x.frame(f, what));
            }
            tale.add("whose(" + f + ") " + x.whose(f));
        }
        for (int k = 0; k < x.count(19); k++) {
            for (int what = 0; what < 9; what++) {
                tale.add("sender(" + k + ", " + what + ") " + x.sender(k, what));
            }
        }
        for (int k = 0; k < x.count(10); k++) {
            tale.add("watched(" + k + ") " + x.watched(k));
        }
        for (int what = 0; what < 4; what++) {
            for (int i = 0; i == 0 || x.past(what, i - 1) >= 0; i++) {
                tale.add("past(" + what + ", " + i + ") " + x.past(what, i));
            }
        }
        tale.add("uneven " + x.uneven() + ", within " + x.within(0, 9999999) + ", middle " + x.middle());
        tale.add("fault " + x.fault(0) + " " + x.fault(1) + ", shared " + x.shared());
        return tale;
    }

    /** Some calls of every kind that changes a keeper. */
    static void use(QueueKeeper x) {
        x.come(5, 200, 0);
        x.come(6, 40, 1);
        x.come(5, 300, 0);
        x.come(2, 70, 1);
        x.pass(7);
        x.go();
        x.go();
        x.come(3, 10, 0);
        x.run(2);
        x.pass(120);
        x.come(4, 500, 0);
        x.go();
    }

    /** Two keepers of which each question tells the same. */
    static void same(String call, QueueKeeper x, QueueKeeper y) {
        List<String> one = tale(x);
        List<String> other = tale(y);
        Check.due(call + ": so many answers", one.size(), other.size());
        for (int i = 0; i < Math.min(one.size(), other.size()); i++) {
            isText(call, one.get(i), other.get(i));
        }
    }
}
