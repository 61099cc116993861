import java.math.BigInteger;
import java.util.ArrayList;
import java.util.Arrays;
import java.util.HashMap;
import java.util.HashSet;
import java.util.List;
import java.util.Map;
import java.util.NoSuchElementException;
import java.util.Set;
import java.util.TreeMap;

/**
 * The document once more, written for plainness alone and apart from the class: lists of objects,
 * whole copies, and every candidate tried. ModelTest compares both.
 */
final class Model {
    static final int NONE = -1;
    static final List<String> SETTINGS =
        List.of("target", "interval", "quantum", "sets", "ways", "limit", "small", "rate");
    static final Map<String, int[][]> LANGUAGE = new HashMap<>();

    static {
        LANGUAGE.put("target", new int[][] {{1, 99}});
        LANGUAGE.put("interval", new int[][] {{10, 999}});
        LANGUAGE.put("quantum", new int[][] {{50, 3000}});
        LANGUAGE.put("sets", new int[][] {{1, 4}});
        LANGUAGE.put("ways", new int[][] {{1, 4}});
        LANGUAGE.put("limit", new int[][] {{1, 60}});
        LANGUAGE.put("small", new int[][] {{0, 3000}});
        LANGUAGE.put("rate", new int[][] {{0, 1500}});
        LANGUAGE.put("sender", new int[][] {{0, 9999}, {1, 1500}, {1, 20}, {1, 99}, {0, 1}});
        LANGUAGE.put("come", new int[][] {{0, 9999}, {1, 1500}, {0, 1}});
        LANGUAGE.put("pass", new int[][] {{1, 999}});
        LANGUAGE.put("go", new int[][] {{1, 60}});
        LANGUAGE.put("run", new int[][] {{1, 200}});
    }

    static final class Frame {
        int number, key, bytes, may, came, bucket, fate, when = -2, owner = -2;
        boolean marked, strange;

        Frame copy() {
            Frame f = new Frame();
            f.number = number;
            f.key = key;
            f.bytes = bytes;
            f.may = may;
            f.came = came;
            f.bucket = bucket;
            f.fate = fate;
            f.when = when;
            f.owner = owner;
            f.marked = marked;
            f.strange = strange;
            return f;
        }
    }

    static final class Bucket {
        int number, tag = -2, deficit, count, last, next, root = 65535;
        Integer above = null;
        boolean dropping;
        List<Integer> frames = new ArrayList<>();
        List<int[]> taken = new ArrayList<>();

        Bucket copy() {
            Bucket b = new Bucket();
            b.number = number;
            b.tag = tag;
            b.deficit = deficit;
            b.count = count;
            b.last = last;
            b.next = next;
            b.root = root;
            b.above = above;
            b.dropping = dropping;
            b.frames = new ArrayList<>(frames);
            b.taken = new ArrayList<>(taken);
            return b;
        }
    }

    static final class Sender {
        int key, bytes, window, delay, may, out, cuts, heard;
        Integer cut = null;
        Set<Integer> heardOf = new HashSet<>();

        Sender copy() {
            Sender s = new Sender();
            s.key = key;
            s.bytes = bytes;
            s.window = window;
            s.delay = delay;
            s.may = may;
            s.out = out;
            s.cuts = cuts;
            s.heard = heard;
            s.cut = cut;
            s.heardOf = new HashSet<>(heardOf);
            return s;
        }
    }

    static final class State {
        Map<String, Integer> set = new HashMap<>(Map.of("target", 5, "interval", 100, "quantum", 300,
            "sets", 2, "ways", 2, "limit", 40, "small", 0, "rate", 0));
        int now, most;
        List<Frame> frames = new ArrayList<>();
        List<Bucket> buckets = new ArrayList<>();
        List<Integer> fresh = new ArrayList<>();
        List<Integer> old = new ArrayList<>();
        List<Sender> senders = new ArrayList<>();
        List<Integer> sent = new ArrayList<>();
        List<Integer> dropped = new ArrayList<>();
        List<Integer> marked = new ArrayList<>();
        List<Integer> pushed = new ArrayList<>();
        List<Integer> ends = new ArrayList<>();
        List<long[]> watches = new ArrayList<>();
        boolean late;

        State() {
            makeBuckets();
        }

        void makeBuckets() {
            buckets.clear();
            for (int k = 0; k < set.get("sets") * set.get("ways"); k++) {
                Bucket b = new Bucket();
                b.number = k;
                buckets.add(b);
            }
        }

        State copy() {
            State s = new State();
            s.set = new HashMap<>(set);
            s.now = now;
            s.most = most;
            s.frames = new ArrayList<>();
            frames.forEach(f -> s.frames.add(f.copy()));
            s.buckets = new ArrayList<>();
            buckets.forEach(b -> s.buckets.add(b.copy()));
            s.fresh = new ArrayList<>(fresh);
            s.old = new ArrayList<>(old);
            s.senders = new ArrayList<>();
            senders.forEach(x -> s.senders.add(x.copy()));
            s.sent = new ArrayList<>(sent);
            s.dropped = new ArrayList<>(dropped);
            s.marked = new ArrayList<>(marked);
            s.pushed = new ArrayList<>(pushed);
            s.ends = new ArrayList<>(ends);
            return s;
        }

        int setOf(int key) {
            return (int) ((long) key * 40503 % 65536 / 256 % set.get("sets"));
        }

        boolean free(int k) {
            return !fresh.contains(k) && !old.contains(k);
        }

        int bytesIn(Bucket b) {
            return b.frames.stream().mapToInt(f -> frames.get(f).bytes).sum();
        }

        int standing() {
            return buckets.stream().mapToInt(b -> b.frames.size()).sum();
        }

        int bucketFor(int key) {
            int ways = set.get("ways");
            int base = setOf(key) * ways;
            for (int w = 0; w < ways; w++) {
                if (!free(base + w) && buckets.get(base + w).tag == key) {
                    return base + w;
                }
            }
            for (int w = 0; w < ways; w++) {
                if (free(base + w)) {
                    return base + w;
                }
            }
            return base + key % ways;
        }

        void count(int what, java.util.function.LongPredicate hit) {
            for (long[] w : watches) {
                if (w[0] == what && hit.test(w[1])) {
                    w[2]++;
                }
            }
        }

        int come(int key, int bytes, int may, int owner) {
            if (frames.size() == 200) {
                return -2;
            }
            int k = bucketFor(key);
            Bucket b = buckets.get(k);
            if (free(k)) {
                Bucket anew = new Bucket();
                anew.number = k;
                anew.tag = key;
                anew.deficit = set.get("quantum");
                buckets.set(k, anew);
                fresh.add(k);
                b = anew;
            }
            Frame f = new Frame();
            f.number = frames.size();
            f.key = key;
            f.bytes = bytes;
            f.may = may;
            f.came = now;
            f.bucket = k;
            f.owner = owner;
            f.strange = b.tag != key;
            frames.add(f);
            b.frames.add(f.number);
            most = Math.max(most, standing());
            if (standing() > set.get("limit")) {
                Bucket longest = buckets.get(0);
                for (Bucket other : buckets) {
                    if (bytesIn(other) > bytesIn(longest)) {
                        longest = other;
                    }
                }
                Frame out = frames.get(longest.frames.remove(0));
                out.fate = 3;
                out.when = now;
                pushed.add(out.number);
                ends.add(out.number);
                int number = longest.number;
                count(4, v -> v == number);
            }
            return f.number;
        }

        Frame take(Bucket b) {
            late = false;
            if (b.frames.isEmpty()) {
                b.above = null;
                return null;
            }
            Frame f = frames.get(b.frames.remove(0));
            int wait = now - f.came;
            b.taken.add(new int[] {now, wait});
            if (wait < set.get("target") || bytesIn(b) < set.get("small")) {
                b.above = null;
            } else if (b.above == null) {
                b.above = now + set.get("interval");
            } else if (now >= b.above) {
                late = true;
            }
            return f;
        }

        int law(int t, int root) {
            return (int) (t + (long) set.get("interval") * root / 65536);
        }

        static int step(int root, int count) {
            BigInteger r = BigInteger.valueOf(root);
            BigInteger q = r.multiply(r).shiftRight(16);
            BigInteger x = BigInteger.valueOf(196608).subtract(q.multiply(BigInteger.valueOf(count)));
            return r.multiply(x).shiftRight(17).max(BigInteger.ONE)
                .min(BigInteger.valueOf(65535)).intValue();
        }

        void mark(Frame f) {
            if (!f.marked) {
                f.marked = true;
                marked.add(f.number);
                count(3, v -> f.bytes >= v);
            }
        }

        void drop(Frame f) {
            f.fate = 2;
            f.when = now;
            dropped.add(f.number);
            ends.add(f.number);
            count(1, v -> f.key == v);
        }

        Frame keep(Bucket b) {
            Frame f = take(b);
            if (b.dropping) {
                if (!late) {
                    b.dropping = false;
                }
                while (b.dropping && now >= b.next) {
                    b.count = Math.min(999, b.count + 1);
                    b.root = step(b.root, b.count);
                    if (f.may == 1) {
                        mark(f);
                        b.next = law(b.next, b.root);
                        break;
                    }
                    drop(f);
                    f = take(b);
                    if (!late) {
                        b.dropping = false;
                    } else {
                        b.next = law(b.next, b.root);
                    }
                }
            } else if (late) {
                if (f.may == 1) {
                    mark(f);
                } else {
                    drop(f);
                    f = take(b);
                }
                b.dropping = true;
                int delta = b.count - b.last;
                if (delta > 1 && now - b.next < 16 * set.get("interval")) {
                    b.count = delta;
                    b.root = step(b.root, b.count);
                } else {
                    b.count = 1;
                    b.root = 65535;
                }
                b.last = b.count;
                b.next = law(now, b.root);
            }
            return f;
        }

        int serve() {
            while (true) {
                boolean isNew = !fresh.isEmpty();
                List<Integer> list = isNew ? fresh : old;
                if (list.isEmpty()) {
                    return -2;
                }
                Bucket b = buckets.get(list.get(0));
                if (b.deficit <= 0) {
                    b.deficit += set.get("quantum");
                    list.remove(0);
                    old.add(b.number);
                    continue;
                }
                Frame f = keep(b);
                if (f == null) {
                    list.remove(0);
                    if (isNew && !old.isEmpty()) {
                        old.add(b.number);
                    } else {
                        count(5, v -> b.tag == v);
                    }
                    continue;
                }
                f.fate = 1;
                f.when = now;
                sent.add(f.number);
                ends.add(f.number);
                b.deficit -= f.bytes;
                count(0, v -> f.when - f.came >= v);
                count(2, v -> b.deficit < 0 - v);
                int rate = set.get("rate");
                if (rate > 0) {
                    now += (int) Math.ceil((double) f.bytes / rate);
                }
                return f.number;
            }
        }

        void tick() {
            for (int s = 0; s < senders.size(); s++) {
                Sender x = senders.get(s);
                for (int n : ends) {
                    Frame f = frames.get(n);
                    if (f.owner != s || x.heardOf.contains(n) || f.when + x.delay > now) {
                        continue;
                    }
                    x.heardOf.add(n);
                    x.heard++;
                    x.out--;
                    if (f.fate == 1 && !f.marked) {
                        x.window = Math.min(2000, x.window + 10000 / x.window);
                    } else if (x.cut == null || now - x.cut >= x.delay) {
                        x.window = Math.max(100, x.window / 2);
                        x.cut = now;
                        x.cuts++;
                    }
                }
            }
            for (int s = 0; s < senders.size(); s++) {
                Sender x = senders.get(s);
                while (x.out * 100 < x.window - 99 && frames.size() != 200) {
                    come(x.key, x.bytes, x.may, s);
                    x.out++;
                }
            }
            serve();
            now++;
        }

        void ticks(int n) {
            for (int i = 0; i < n; i++) {
                tick();
            }
        }

        int cuts() {
            return senders.stream().mapToInt(s -> s.cuts).sum();
        }

        void drain(int e) {
            while (standing() > 0) {
                serve();
                now += e;
            }
        }

        int wait(int f) {
            return frames.get(f).when - frames.get(f).came;
        }
    }

    State s = new State();
    byte[] tape = new byte[0];
    int fault = 0;
    int faultPlace = NONE;

    static boolean in(int n, int low, int high) {
        return n >= low && n <= high;
    }

    int feed(int a, int b, int c, int d, int e) {
        if (tape.length + 20 > 900) {
            return NONE;
        }
        int at = tape.length;
        tape = Arrays.copyOf(tape, at + 20);
        int[] all = {a, b, c, d, e};
        for (int i = 0; i < 20; i++) {
            tape[at + i] = (byte) (all[i / 4] >> 24 - i % 4 * 8);
        }
        return tape.length;
    }

    /** A fault as {kind, place}, or the lines: a list of words and numbers each. */
    static Object parse(String text) {
        List<List<String>> lines = new ArrayList<>();
        List<String> tokens = new ArrayList<>();
        List<Integer> places = new ArrayList<>();
        java.util.regex.Matcher m =
            java.util.regex.Pattern.compile("[a-z]+|[0-9]+|[^ \n]", java.util.regex.Pattern.DOTALL).matcher(text);
        while (m.find()) {
            tokens.add(m.group());
            places.add(m.start());
        }
        tokens.add("");
        places.add(text.length());
        Set<String> told = new HashSet<>();
        Set<Integer> keys = new HashSet<>();
        boolean others = false;
        int comes = 0;
        int senders = 0;
        int i = 0;
        while (i < tokens.size() - 1) {
            String word = tokens.get(i);
            int place = places.get(i);
            if (!LANGUAGE.containsKey(word)) {
                return new int[] {1, place};
            }
            boolean setting = SETTINGS.contains(word);
            if ((setting || word.equals("sender")) && others) {
                return new int[] {1, place};
            }
            others |= !setting && !word.equals("sender");
            if (word.equals("come") && ++comes > 200 || word.equals("sender") && ++senders > 4) {
                return new int[] {2, place};
            }
            if (setting && !told.add(word)) {
                return new int[] {3, place};
            }
            List<String> line = new ArrayList<>();
            line.add(word);
            i++;
            for (int[] range : LANGUAGE.get(word)) {
                String number = tokens.get(i);
                if (!number.matches("[0-9]+")) {
                    return new int[] {1, places.get(i)};
                }
                BigInteger value = new BigInteger(number);
                if (value.compareTo(BigInteger.valueOf(range[0])) < 0
                    || value.compareTo(BigInteger.valueOf(range[1])) > 0) {
                    return new int[] {2, places.get(i)};
                }
                if (word.equals("sender") && line.size() == 1 && !keys.add(value.intValue())) {
                    return new int[] {3, places.get(i)};
                }
                line.add(value.toString());
                i++;
            }
            if (!tokens.get(i).equals(";")) {
                return new int[] {1, places.get(i)};
            }
            i++;
            lines.add(line);
        }
        return lines;
    }

    @SuppressWarnings("unchecked")
    int text(int n) {
        if (n < 0 || n > tape.length) {
            return -2;
        }
        Object read = parse(new String(tape, 0, n, java.nio.charset.StandardCharsets.ISO_8859_1));
        tape = new byte[0];
        if (read instanceof int[] bad) {
            fault = bad[0];
            faultPlace = bad[1];
            return NONE;
        }
        fault = 0;
        faultPlace = NONE;
        s = new State();
        List<List<String>> lines = (List<List<String>>) read;
        for (List<String> line : lines) {
            perform(line);
        }
        return lines.size();
    }

    private void perform(List<String> line) {
        String word = line.get(0);
        int[] n = line.stream().skip(1).mapToInt(Integer::parseInt).toArray();
        if (SETTINGS.contains(word)) {
            s.set.put(word, n[0]);
            s.makeBuckets();
        } else if (word.equals("sender")) {
            Sender x = new Sender();
            x.key = n[0];
            x.bytes = n[1];
            x.window = 100 * n[2];
            x.delay = n[3];
            x.may = n[4];
            s.senders.add(x);
        } else if (word.equals("come")) {
            s.come(n[0], n[1], n[2], -2);
        } else if (word.equals("pass")) {
            s.now += n[0];
        } else if (word.equals("go")) {
            for (int i = 0; i < n[0]; i++) {
                s.serve();
            }
        } else {
            s.ticks(n[0]);
        }
    }

    int fault(int what) {
        return what == 0 ? fault : what == 1 ? faultPlace : NONE;
    }

    int come(int key, int bytes, int may) {
        return !in(key, 0, 9999) || !in(bytes, 1, 1500) || !in(may, 0, 1) ? NONE
            : s.come(key, bytes, may, -2);
    }

    int pass(int n) {
        return !in(n, 1, 999) || s.now + n > 999999 ? NONE : (s.now += n);
    }

    int go() {
        return s.serve();
    }

    int run(int n) {
        if (!in(n, 1, 200)) {
            return NONE;
        }
        int before = s.sent.size();
        s.ticks(n);
        return s.sent.size() - before;
    }

    int sender(int k, int what) {
        if (!in(k, 0, s.senders.size() - 1) || !in(what, 0, 8)) {
            return NONE;
        }
        Sender x = s.senders.get(k);
        int cut = x.cut == null ? -2 : x.cut;
        return new int[] {x.key, x.bytes, x.window, x.delay, x.may, x.out, x.cuts, cut, x.heard}[what];
    }

    int whose(int f) {
        return in(f, 0, s.frames.size() - 1) ? s.frames.get(f).owner : NONE;
    }

    int ifRun(int n, int what) {
        if (!in(n, 1, 200) || !in(what, 0, 5)) {
            return NONE;
        }
        State t = s.copy();
        t.ticks(n);
        return new int[] {t.sent.size() - s.sent.size(), t.dropped.size() - s.dropped.size(),
            t.marked.size() - s.marked.size(), t.pushed.size() - s.pushed.size(), t.now,
            t.senders.stream().mapToInt(x -> x.window).sum()}[what];
    }

    int firstCut(int n) {
        if (!in(n, 1, 200)) {
            return NONE;
        }
        State t = s.copy();
        for (int i = 1; i <= n; i++) {
            t.tick();
            if (t.cuts() != s.cuts()) {
                return i;
            }
        }
        return -2;
    }

    int leastLimit(int n) {
        if (!in(n, 1, 200)) {
            return NONE;
        }
        for (int limit = 1; limit <= 60; limit++) {
            State t = s.copy();
            t.set.put("limit", limit);
            t.ticks(n);
            if (t.pushed.size() == s.pushed.size()) {
                return limit;
            }
        }
        return -2;
    }

    int bestTarget(int n) {
        if (!in(n, 1, 200)) {
            return NONE;
        }
        int best = 0;
        int most = -1;
        for (int target = 1; target <= 99; target++) {
            State t = s.copy();
            t.set.put("target", target);
            t.ticks(n);
            int bytes = t.sent.stream().skip(s.sent.size()).mapToInt(f -> t.frames.get(f).bytes).sum();
            if (bytes > most) {
                most = bytes;
                best = target;
            }
        }
        return best;
    }

    int settle(int what, int v) {
        if (!in(what, 0, 5)) {
            return NONE;
        }
        String word = List.of("target", "interval", "quantum", "limit", "small", "rate").get(what);
        int[] range = LANGUAGE.get(word)[0];
        return in(v, range[0], range[1]) ? s.set.put(word, v) : NONE;
    }

    int watch(int what, int v) {
        if (!in(what, 0, 5) || !in(v, 0, 99999)) {
            return NONE;
        }
        if (s.watches.size() == 6) {
            return -2;
        }
        s.watches.add(new long[] {what, v, 0});
        return s.watches.size() - 1;
    }

    int watched(int k) {
        return k < 0 ? NONE : k >= s.watches.size() ? -2 : (int) s.watches.get(k)[2];
    }

    int set(int key) {
        return in(key, 0, 9999) ? s.setOf(key) : NONE;
    }

    int bucketFor(int key) {
        return in(key, 0, 9999) ? s.bucketFor(key) : NONE;
    }

    int bucket(int k, int what) {
        if (!in(k, 0, s.buckets.size() - 1)) {
            throw new IndexOutOfBoundsException();
        }
        if (!in(what, 0, 10)) {
            throw new NoSuchElementException();
        }
        Bucket b = s.buckets.get(k);
        int list = s.fresh.contains(k) ? 1 : s.old.contains(k) ? 2 : 0;
        return new int[] {b.tag, b.frames.size(), s.bytesIn(b), b.deficit, list, b.count, b.last,
            b.dropping ? 1 : 0, b.next, b.above == null ? -2 : b.above, b.root}[what];
    }

    int inBucket(int k, int i) {
        if (!in(k, 0, s.buckets.size() - 1) || i < 0) {
            return NONE;
        }
        List<Integer> all = s.buckets.get(k).frames;
        return i < all.size() ? all.get(i) : -2;
    }

    int order(int i) {
        List<Integer> all = new ArrayList<>(s.fresh);
        all.addAll(s.old);
        return i < 0 ? NONE : i < all.size() ? all.get(i) : -2;
    }

    int frame(int f, int what) {
        if (!in(f, 0, s.frames.size() - 1) || !in(what, 0, 7)) {
            return NONE;
        }
        Frame x = s.frames.get(f);
        return new int[] {x.key, x.bytes, x.may, x.came, x.bucket, x.marked ? 1 : 0, x.fate, x.when}[what];
    }

    int past(int what, int i) {
        if (!in(what, 0, 3) || i < 0) {
            return NONE;
        }
        List<Integer> all = List.of(s.sent, s.dropped, s.marked, s.pushed).get(what);
        return i < all.size() ? all.get(i) : -2;
    }

    int eldest(int k, int what) {
        if (!in(k, 0, s.buckets.size() - 1) || !in(what, 0, 1)) {
            return NONE;
        }
        int wait = -2;
        int frame = -2;
        for (int f : s.buckets.get(k).frames) {
            if (s.now - s.frames.get(f).came > wait) {
                wait = s.now - s.frames.get(f).came;
                frame = f;
            }
        }
        return what == 0 ? wait : frame;
    }

    int least(int k) {
        if (!in(k, 0, s.buckets.size() - 1)) {
            return NONE;
        }
        return s.buckets.get(k).taken.stream().filter(t -> s.now - t[0] < s.set.get("interval"))
            .mapToInt(t -> t[1]).min().orElse(-2);
    }

    int rootBy(int n) {
        if (!in(n, 1, 999)) {
            return NONE;
        }
        int root = 65535;
        for (int count = 2; count <= n; count++) {
            root = State.step(root, count);
        }
        return root;
    }

    int exact(int n) {
        if (!in(n, 1, 999)) {
            return NONE;
        }
        return Math.min(65535,
            BigInteger.ONE.shiftLeft(32).divide(BigInteger.valueOf(n)).sqrt().intValue());
    }

    int farthest(int n, int what) {
        if (!in(n, 1, 999) || !in(what, 0, 1)) {
            return NONE;
        }
        int best = 0;
        int far = -1;
        int root = 65535;
        for (int m = 1; m <= n; m++) {
            root = m == 1 ? root : State.step(root, m);
            if (Math.abs(root - exact(m)) > far) {
                far = Math.abs(root - exact(m));
                best = m;
            }
        }
        return what == 0 ? best : far;
    }

    int flow(int key, int what) {
        if (!in(key, 0, 9999) || !in(what, 0, 3)) {
            return NONE;
        }
        int[] sent = s.sent.stream().filter(f -> s.frames.get(f).key == key).mapToInt(f -> f).toArray();
        switch (what) {
            case 0: return Arrays.stream(sent).map(f -> s.frames.get(f).bytes).sum();
            case 1: return (int) s.frames.stream().filter(f -> f.key == key).count();
            case 2: return Arrays.stream(sent).map(s::wait).max().orElse(-2);
            default: return Arrays.stream(sent).map(s::wait).sum();
        }
    }

    int uneven() {
        TreeMap<Integer, Integer> bytes = new TreeMap<>();
        for (Frame f : s.frames) {
            bytes.merge(f.key, f.fate == 1 ? f.bytes : 0, Integer::sum);
        }
        if (bytes.isEmpty()) {
            return -2;
        }
        return bytes.values().stream().mapToInt(x -> x).max().getAsInt()
            - bytes.values().stream().mapToInt(x -> x).min().getAsInt();
    }

    int ahead(int k) {
        if (k < 0) {
            return NONE;
        }
        State t = s.copy();
        t.drain(0);
        int i = s.sent.size() + Math.min(k, 1000);
        return i < t.sent.size() ? t.sent.get(i) : -2;
    }

    int drain(int e, int what) {
        if (!in(e, 0, 999) || !in(what, 0, 4)) {
            return NONE;
        }
        State t = s.copy();
        t.drain(e);
        return new int[] {t.sent.size() - s.sent.size(), t.dropped.size() - s.dropped.size(),
            t.marked.size() - s.marked.size(), t.now,
            t.sent.stream().skip(s.sent.size()).mapToInt(t::wait).max().orElse(-2)}[what];
    }

    int leastTarget(int e) {
        if (!in(e, 0, 999)) {
            return NONE;
        }
        for (int target = 1; target <= 99; target++) {
            State t = s.copy();
            t.set.put("target", target);
            t.drain(e);
            if (t.dropped.size() == s.dropped.size() && t.marked.size() == s.marked.size()) {
                return target;
            }
        }
        return -2;
    }

    int bestQuantum(int e) {
        if (!in(e, 0, 999)) {
            return NONE;
        }
        int best = 0;
        long least = Long.MAX_VALUE;
        for (int quantum = 50; quantum <= 3000; quantum += 50) {
            State t = s.copy();
            t.set.put("quantum", quantum);
            t.drain(e);
            long waits = t.sent.stream().skip(s.sent.size()).mapToLong(t::wait).sum();
            if (waits < least) {
                least = waits;
                best = quantum;
            }
        }
        return best;
    }

    int shared() {
        return (int) s.frames.stream().filter(f -> f.strange).map(f -> f.key).distinct().count();
    }

    int within(int a, int b) {
        if (a < 0 || b < a || b > 9999999) {
            return NONE;
        }
        return (int) s.sent.stream().filter(f -> in(s.wait(f), a, b)).count();
    }

    int middle() {
        int[] waits = s.sent.stream().mapToInt(s::wait).sorted().toArray();
        return waits.length == 0 ? -2 : waits[waits.length / 2];
    }

    int load(int set) {
        if (!in(set, 0, s.set.get("sets") - 1)) {
            return NONE;
        }
        return (int) java.util.stream.IntStream.range(0, 10000).filter(k -> s.setOf(k) == set).count();
    }

    int count(int what) {
        if (!in(what, 0, 19)) {
            return NONE;
        }
        return new int[] {s.now, s.frames.size(), s.standing(),
            s.buckets.stream().mapToInt(s::bytesIn).sum(), s.sent.size(), s.dropped.size(),
            s.marked.size(), s.pushed.size(), s.buckets.size(),
            s.buckets.size() - s.fresh.size() - s.old.size(), s.watches.size(), s.set.get("target"),
            s.set.get("interval"), s.set.get("quantum"), s.set.get("limit"), s.set.get("small"),
            tape.length, s.set.get("rate"), s.most, s.senders.size()}[what];
    }
}
