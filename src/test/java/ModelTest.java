import java.lang.reflect.InvocationTargetException;
import java.lang.reflect.Method;
import java.nio.charset.StandardCharsets;
import java.util.ArrayList;
import java.util.List;
import java.util.Random;

/** Runs of random calls, the same on the class and on the model: every answer must be the same. */
public final class ModelTest {
    private static final int RUNS = 400;
    private static final int CALLS = 300;

    private static final String[] CHANGES = {"come", "come", "come", "come", "come", "pass", "go", "go",
        "run", "settle", "watch"};
    private static final String[] QUESTIONS = {"fault", "sender", "whose", "ifRun", "firstCut",
        "leastLimit", "bestTarget", "watched", "set", "bucketFor", "bucket", "bucket", "inBucket", "order",
        "frame", "past", "eldest", "least", "rootBy", "exact", "farthest", "flow", "uneven", "ahead",
        "drain", "leastTarget", "bestQuantum", "shared", "within", "middle", "load", "count", "count"};

    private static int wrong = 0;
    private static long answers = 0;
    private static long[] tally = new long[8];

    private final Random random;
    private final QueueKeeper real = new QueueKeeper();
    private final Model model = new Model();
    private final List<String> story = new ArrayList<>();
    private int keys;
    private int largest;
    private int mayOf;

    private ModelTest(long seed) {
        random = new Random(seed);
        keys = 1 + random.nextInt(9);
        largest = random.nextInt(3) == 0 ? 1500 : 30 + random.nextInt(400);
        mayOf = random.nextInt(3);
    }

    private static Method method(Class<?> owner, String name) {
        for (Method m : owner.getDeclaredMethods()) {
            if (m.getName().equals(name)) {
                m.setAccessible(true);
                return m;
            }
        }
        throw new IllegalStateException(name);
    }

    private static Object answer(Object on, String name, Object[] args) throws Exception {
        try {
            return method(on.getClass(), name).invoke(on, args);
        } catch (InvocationTargetException thrown) {
            return thrown.getCause().getClass().getSimpleName();
        }
    }

    private void call(String name, Integer... args) throws Exception {
        Object due = answer(model, name, args);
        Object got = answer(real, name, args);
        answers++;
        story.add(name + List.of(args) + " -> " + due);
        if (!due.equals(got)) {
            wrong++;
            if (wrong <= 5) {
                story.forEach(System.out::println);
                System.out.println("the class answered " + got + " to the last one\n");
            }
        }
    }

    private int low(int bound) {
        return random.nextInt(20) == 0 ? -1 - random.nextInt(2) : random.nextInt(bound);
    }

    private int key() {
        return random.nextInt(40) == 0 ? random.nextInt(10002) - 1 : random.nextInt(keys) * 7;
    }

    private int bytes() {
        return random.nextInt(60) == 0 ? random.nextInt(1600) - 20 : 1 + random.nextInt(largest);
    }

    private int may() {
        return random.nextInt(60) == 0 ? 2 : mayOf == 2 ? random.nextInt(2) : mayOf;
    }

    private void change(String name) throws Exception {
        switch (name) {
            case "come": call(name, key(), bytes(), may()); break;
            case "pass": call(name, random.nextInt(8) == 0 ? random.nextInt(1010) - 2 : 1 + random.nextInt(12)); break;
            case "run": call(name, random.nextInt(10) == 0 ? random.nextInt(210) - 3 : 1 + random.nextInt(9)); break;
            case "settle": settle(); break;
            case "watch":
                call(name, low(7), random.nextInt(3) == 0 ? random.nextInt(100010) : low(30));
                break;
            default: call(name);
        }
    }

    private void settle() throws Exception {
        int what = low(7);
        int[] highest = {110, 60, 700, 12, 300, 200, 5};
        call("settle", what, low(highest[Math.max(0, what)]));
    }

    private void ask(String name) throws Exception {
        switch (name) {
            case "fault": call(name, low(3)); break;
            case "sender": call(name, low(5), low(10)); break;
            case "whose": call(name, low(model.s.frames.size() + 2)); break;
            case "ifRun": call(name, ticks(), low(7)); break;
            case "firstCut": case "leastLimit": call(name, ticks()); break;
            case "bestTarget": call(name, random.nextInt(4) == 0 ? ticks() : 1 + random.nextInt(40)); break;
            case "watched": call(name, low(8)); break;
            case "set": case "bucketFor": call(name, key()); break;
            case "bucket": call(name, low(model.s.buckets.size() + 1), low(12)); break;
            case "inBucket": call(name, low(model.s.buckets.size() + 1), low(8)); break;
            case "order": call(name, low(10)); break;
            case "frame": call(name, low(model.s.frames.size() + 2), low(9)); break;
            case "past": call(name, low(5), low(20)); break;
            case "eldest": call(name, low(model.s.buckets.size() + 1), low(3)); break;
            case "least": call(name, low(model.s.buckets.size() + 1)); break;
            case "rootBy": case "exact": call(name, low(1002)); break;
            case "farthest": call(name, low(60), low(3)); break;
            case "flow": call(name, key(), low(5)); break;
            case "ahead": call(name, low(14)); break;
            case "drain": call(name, pause(), low(6)); break;
            case "leastTarget": case "bestQuantum": call(name, pause()); break;
            case "within": call(name, low(30), low(100)); break;
            case "load": call(name, low(6)); break;
            case "count": call(name, low(21)); break;
            default: call(name);
        }
    }

    private int ticks() {
        return random.nextInt(10) == 0 ? random.nextInt(203) - 1 : 1 + random.nextInt(60);
    }

    private int pause() {
        return random.nextInt(8) == 0 ? random.nextInt(1003) - 1 : random.nextInt(25);
    }

    private int around(int low, int high) {
        if (random.nextInt(250) == 0) {
            return random.nextBoolean() ? Math.max(0, low - 1) : high + 1;
        }
        return low + random.nextInt(Math.max(1, high - low + 1));
    }

    private String sometimes(String word, int low, int high) {
        return random.nextInt(3) == 0 ? "" : word + " " + around(low, high) + ";";
    }

    private String line() {
        switch (random.nextInt(8)) {
            case 0: return "pass " + around(1, 30) + ";";
            case 1: return "go " + around(1, 3) + ";";
            case 2: return "run " + around(1, 20) + ";";
            default:
                return "come " + random.nextInt(keys) * 7 + " " + around(1, largest) + " "
                    + (mayOf == 2 ? random.nextInt(2) : mayOf) + ";";
        }
    }

    private String newText() {
        StringBuilder text = new StringBuilder();
        text.append(sometimes("target", 1, 12)).append(sometimes("interval", 10, 40));
        text.append(sometimes("quantum", 50, 600)).append(sometimes("sets", 1, 4));
        text.append(sometimes("ways", 1, 4)).append(sometimes("limit", 1, 60));
        if (random.nextInt(3) == 0) {
            text.append(sometimes("small", 0, 400));
        }
        if (random.nextInt(3) == 0) {
            text.append(sometimes("rate", 0, 200));
        }
        int senders = random.nextInt(6);
        for (int i = 0; i < senders; i++) {
            text.append("sender ").append(random.nextInt(8) == 0 ? 7 : 7 * i).append(' ')
                .append(around(1, largest)).append(' ').append(around(1, 20)).append(' ')
                .append(around(1, 30)).append(' ').append(around(0, 1)).append(";\n");
        }
        int lines = random.nextInt(30);
        for (int i = 0; i < lines; i++) {
            text.append(line()).append(random.nextInt(9) == 0 ? " \n" : "");
        }
        if (random.nextInt(6) == 0) {
            spoil(text);
        }
        return text.toString();
    }

    private void spoil(StringBuilder text) {
        String signs = "a0;9 gx\n\tA#\u00e95;";
        for (int i = 1 + random.nextInt(2); i > 0 && text.length() > 0; i--) {
            int at = random.nextInt(text.length());
            char sign = signs.charAt(random.nextInt(signs.length()));
            switch (random.nextInt(3)) {
                case 0: text.setCharAt(at, sign); break;
                case 1: text.insert(at, sign); break;
                default: text.deleteCharAt(at);
            }
        }
    }

    private void giveText() throws Exception {
        byte[] text = newText().getBytes(StandardCharsets.ISO_8859_1);
        story.add(new String(text, StandardCharsets.ISO_8859_1));
        for (int at = 0; at < text.length; at += 20) {
            Integer[] numbers = {0, 0, 0, 0, 0};
            for (int i = 0; i < 20; i++) {
                numbers[i / 4] = numbers[i / 4] << 8 | (at + i < text.length ? text[at + i] & 255 : 32);
            }
            call("feed", numbers);
        }
        if (random.nextInt(10) == 0) {
            call("text", -1);
            call("text", 901);
        }
        int cut = random.nextInt(10) == 0 ? random.nextInt(text.length + 1) : text.length;
        call("text", Math.min(cut, 900));
        call("fault", 0);
        call("fault", 1);
        call("count", 16);
    }

    private void checkAll() throws Exception {
        for (int what = 0; what <= 19; what++) {
            call("count", what);
        }
        for (int k = 0; k < model.s.buckets.size(); k++) {
            for (int what = 0; what <= 10; what++) {
                call("bucket", k, what);
            }
            call("least", k);
        }
        for (int f = 0; f < model.s.frames.size(); f++) {
            for (int what = 4; what <= 7; what++) {
                call("frame", f, what);
            }
            call("whose", f);
        }
        for (int k = 0; k < model.s.senders.size(); k++) {
            for (int what = 0; what <= 8; what++) {
                call("sender", k, what);
            }
        }
        for (int k = 0; k < 6; k++) {
            call("watched", k);
        }
        for (int i = 0; i < model.s.marked.size(); i++) {
            call("past", 2, i);
        }
        tally[0] += model.s.sent.size();
        tally[1] += model.s.dropped.size();
        tally[2] += model.s.marked.size();
        tally[3] += model.s.pushed.size();
        tally[4] += model.s.cuts();
        tally[5] += model.s.buckets.stream().mapToInt(b -> b.count > 2 ? 1 : 0).sum();
        tally[6] += model.shared();
        tally[7] += model.s.watches.stream().mapToLong(w -> w[2]).sum();
    }

    private void go() throws Exception {
        if (random.nextInt(8) != 0) {
            giveText();
        }
        for (int i = 0; i < CALLS; i++) {
            if (random.nextInt(150) == 0) {
                giveText();
            } else if (random.nextInt(3) == 0) {
                ask(QUESTIONS[random.nextInt(QUESTIONS.length)]);
            } else {
                change(CHANGES[random.nextInt(CHANGES.length)]);
            }
        }
        checkAll();
    }

    public static void main(String[] args) throws Exception {
        long first = args.length > 0 ? Long.parseLong(args[0]) : 1;
        int runs = args.length > 1 ? Integer.parseInt(args[1]) : RUNS;
        for (long seed = first; seed < first + runs; seed++) {
            new ModelTest(seed).go();
        }
        System.out.println("ModelTest: " + answers + " answers, " + wrong + " wrong; sent, dropped, marked,"
            + " pushed, cuts, counts, shared, watched " + java.util.Arrays.toString(tally));
        System.exit(wrong == 0 ? 0 : 1);
    }
}
