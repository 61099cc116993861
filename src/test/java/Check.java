import java.nio.charset.StandardCharsets;

/** What the tests share: comparing answers, and giving a keeper its text. */
final class Check {
    private static int wrong = 0;
    private static int made = 0;

    /** What wrong answers are told under: the sentence of the document that is at stake. */
    private static String heading = "";

    private Check() {
    }

    static void under(String sentence) {
        heading = sentence + ": ";
    }

    static void due(String call, long got, long want) {
        made++;
        if (got != want) {
            wrong++;
            System.out.println(heading + call + " answered " + got + ", due is " + want);
        }
    }

    /** Answers in a row, beginning with argument 0, of one kind of call. */
    static void dueRow(String call, int[] got, int... want) {
        due(call + " length", got.length, want.length);
        for (int i = 0; i < Math.min(got.length, want.length); i++) {
            due(call + " [" + i + "]", got[i], want[i]);
        }
    }

    /** Puts a text on the tape, filled up with blanks, as feed takes twenty bytes at a time. */
    static void feed(QueueKeeper keeper, String text) {
        byte[] bytes = text.getBytes(StandardCharsets.ISO_8859_1);
        for (int at = 0; at < bytes.length; at += 20) {
            int[] numbers = new int[5];
            for (int i = 0; i < 20; i++) {
                int sign = at + i < bytes.length ? bytes[at + i] & 255 : 32;
                numbers[i / 4] = numbers[i / 4] << 8 | sign;
            }
            keeper.feed(numbers[0], numbers[1], numbers[2], numbers[3], numbers[4]);
        }
    }

    static int text(QueueKeeper keeper, String text) {
        feed(keeper, text);
        return keeper.text(text.length());
    }

    /** A new keeper that has done a text without a fault. */
    static QueueKeeper keeper(String text) {
        QueueKeeper keeper = new QueueKeeper();
        if (text(keeper, text) < 0) {
            due("fault of \"" + text + "\"", keeper.fault(0), 0);
        }
        return keeper;
    }

    static int[] bucketRow(QueueKeeper keeper, int k) {
        int[] row = new int[11];
        for (int what = 0; what < 11; what++) {
            row[what] = keeper.bucket(k, what);
        }
        return row;
    }

    static int[] frameRow(QueueKeeper keeper, int f) {
        int[] row = new int[8];
        for (int what = 0; what < 8; what++) {
            row[what] = keeper.frame(f, what);
        }
        return row;
    }

    static int[] senderRow(QueueKeeper keeper, int k) {
        int[] row = new int[9];
        for (int what = 0; what < 9; what++) {
            row[what] = keeper.sender(k, what);
        }
        return row;
    }

    static void finish(String name) {
        System.out.println(name + ": " + made + " answers, " + wrong + " wrong");
        if (wrong != 0 || made == 0) {
            System.exit(1);
        }
    }
}
