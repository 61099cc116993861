import java.util.NoSuchElementException;

/** A keeper of queues by how long frames wait. README.md says how to use it. */
public final class QueueKeeper {
    public static final int NONE = -1;

    /** The document's other answer: rightly asked, but not there. */
    private static final int ABSENT = -2;

    private static final int TAPE_MOST = 900;
    private static final int FRAMES_MOST = 200;
    private static final int BUCKETS_MOST = 16;
    private static final int SENDERS_MOST = 4;
    private static final int WATCHES_MOST = 6;
    private static final int KEYS = 10000;
    private static final int NOW_MOST = 999999;
    private static final int WAIT_MOST = 9999999;
    private static final int PAUSE_MOST = 999;

    /** Above every wait. */
    private static final int NEVER = 99999999;
    private static final int WATCHED_MOST = 99999;

    /** The words of the language; the first eight are settings, and rows of settings go by them. */
    private static final int TARGET = 0;
    private static final int INTERVAL = 1;
    private static final int QUANTUM = 2;
    private static final int SETS = 3;
    private static final int WAYS = 4;
    private static final int LIMIT = 5;
    private static final int SMALL = 6;
    private static final int RATE = 7;
    private static final int SENDER = 8;
    private static final int COME = 9;
    private static final int PASS = 10;
    private static final int GO = 11;
    private static final int RUN = 12;
    private static final int WORDS = 13;

    /** A word's numbers have the ranges from RANGE_OF its own up to RANGE_OF the next word. */
    private static final int[] RANGE_OF = {0, 1, 2, 3, 4, 5, 6, 7, 8, 13, 16, 17, 18, 19};
    private static final int[] LOWEST =
        {1, 10, 50, 1, 1, 1, 0, 0, 0, 1, 1, 1, 0, 0, 1, 0, 1, 1, 1};
    private static final int[] HIGHEST =
        {99, 999, 3000, 4, 4, 60, 3000, 1500, 9999, 1500, 20, 99, 1, 9999, 1500, 1, 999, 60, 200};
    private static final int SENDER_KEY_RANGE = 8;
    private static final int KEY_RANGE = 13;
    private static final int BYTES_RANGE = 14;
    private static final int MAY_RANGE = 15;
    private static final int PASS_RANGE = 16;
    private static final int RUN_RANGE = 18;

    private static final int[] FIRST_SETTINGS = {5, 100, 300, 2, 2, 40, 0, 0};
    private static final int[] SETTLED = {TARGET, INTERVAL, QUANTUM, LIMIT, SMALL, RATE};

    /** What became of a frame, as the document numbers it; MARKED shares the row of tallies. */
    private static final int STANDS = 0;
    private static final int SENT = 1;
    private static final int DROPPED = 2;
    private static final int PUSHED = 3;
    private static final int MARKED = 4;
    private static final int TALLIES = 5;
    private static final int[] PAST_KINDS = {SENT, DROPPED, MARKED, PUSHED};

    private static final int FREE = 0;
    private static final int NEW = 1;
    private static final int OLD = 2;

    private static final int WATCH_WAIT = 0;
    private static final int WATCH_DROPPED = 1;
    private static final int WATCH_DEFICIT = 2;
    private static final int WATCH_MARKED = 3;
    private static final int WATCH_PUSHED = 4;
    private static final int WATCH_FREE = 5;

    private final Reader reader = new Reader();
    private final World world = new World();
    private final Trial trial = new Trial();

    public QueueKeeper() {
    }

    public int feed(int a, int b, int c, int d, int e) {
        if (reader.tapeLength + 20 > TAPE_MOST) {
            return NONE;
        }
        reader.append(a);
        reader.append(b);
        reader.append(c);
        reader.append(d);
        reader.append(e);
        return reader.tapeLength;
    }

    public int text(int n) {
        if (n < 0 || n > reader.tapeLength) {
            return ABSENT;
        }
        reader.read(n);
        reader.tapeLength = 0;
        if (reader.faultKind != 0) {
            return NONE;
        }
        world.clear();
        perform();
        return reader.lines;
    }

    public int fault(int what) {
        if (what == 0) {
            return reader.faultKind;
        }
        return what == 1 ? reader.faultPlace : NONE;
    }

    public int come(int key, int bytes, int may) {
        if (!fits(KEY_RANGE, key) || !fits(BYTES_RANGE, bytes) || !fits(MAY_RANGE, may)) {
            return NONE;
        }
        return world.arrive(key, bytes, may, ABSENT);
    }

    public int pass(int n) {
        if (!fits(PASS_RANGE, n) || world.now + n > NOW_MOST) {
            return NONE;
        }
        world.now += n;
        return world.now;
    }

    public int go() {
        return world.serve();
    }

    public int run(int n) {
        if (!fits(RUN_RANGE, n)) {
            return NONE;
        }
        int before = world.frames.tally[SENT];
        for (int tick = 0; tick < n; tick++) {
            world.tick();
        }
        return world.frames.tally[SENT] - before;
    }

    public int sender(int k, int what) {
        if (k < 0 || k >= world.senderCount || k >= SENDERS_MOST) {
            return NONE;
        }
        return world.senders[k].tell(what);
    }

    public int whose(int f) {
        return world.frames.has(f) ? world.frames.owner[f] : NONE;
    }

    public int ifRun(int n, int what) {
        if (!fits(RUN_RANGE, n) || what < 0 || what > 5) {
            return NONE;
        }
        return trial.afterTicks(world, n, what);
    }

    public int firstCut(int n) {
        return fits(RUN_RANGE, n) ? trial.tickOfFirstCut(world, n) : NONE;
    }

    public int leastLimit(int n) {
        return fits(RUN_RANGE, n) ? trial.limitWithoutPushes(world, n) : NONE;
    }

    public int bestTarget(int n) {
        return fits(RUN_RANGE, n) ? trial.targetOfMostBytes(world, n) : NONE;
    }

    public int settle(int what, int v) {
        if (what < 0 || what >= SETTLED.length) {
            return NONE;
        }
        int word = SETTLED[what];
        if (!fits(word, v)) {
            return NONE;
        }
        int before = world.settings[word];
        world.settings[word] = v;
        return before;
    }

    public int watch(int what, int v) {
        if (what < 0 || what > WATCH_FREE || v < 0 || v > WATCHED_MOST) {
            return NONE;
        }
        return world.watches.add(what, v);
    }

    public int watched(int k) {
        if (k < 0) {
            return NONE;
        }
        return world.watches.tell(k);
    }

    public int set(int key) {
        return fits(KEY_RANGE, key) ? world.setOf(key) : NONE;
    }

    public int bucketFor(int key) {
        return fits(KEY_RANGE, key) ? world.placeFor(key) : NONE;
    }

    public int bucket(int k, int what) throws IndexOutOfBoundsException, NoSuchElementException {
        if (!world.hasBucket(k)) {
            throw new IndexOutOfBoundsException("no such bucket");
        }
        if (what < 0 || what > 10) {
            throw new NoSuchElementException("no such what");
        }
        return world.buckets[k].tell(what);
    }

    public int inBucket(int k, int i) {
        if (!world.hasBucket(k) || i < 0) {
            return NONE;
        }
        return world.frames.along(world.buckets[k].first, i);
    }

    public int order(int i) {
        return i < 0 ? NONE : world.lists.at(i);
    }

    public int frame(int f, int what) {
        return world.frames.tell(f, what);
    }

    public int past(int what, int i) {
        if (what < 0 || what >= PAST_KINDS.length || i < 0) {
            return NONE;
        }
        return world.frames.endedAs(PAST_KINDS[what], i);
    }

    public int eldest(int k, int what) {
        if (!world.hasBucket(k) || what < 0 || what > 1) {
            return NONE;
        }
        int f = world.buckets[k].first;
        if (!world.frames.has(f)) {
            return ABSENT;
        }
        return what == 0 ? world.now - world.frames.came[f] : f;
    }

    public int least(int k) {
        return world.leastTaken(k);
    }

    public int rootBy(int n) {
        return n < 1 || n > Roots.COUNT_MOST ? NONE : Roots.stepped(n);
    }

    public int exact(int n) {
        return n < 1 || n > Roots.COUNT_MOST ? NONE : Roots.trueRoot(n);
    }

    public int farthest(int n, int what) {
        if (n < 1 || n > Roots.COUNT_MOST || what < 0 || what > 1) {
            return NONE;
        }
        return Roots.worst(n, what);
    }

    public int flow(int key, int what) {
        if (!fits(KEY_RANGE, key) || what < 0 || what > 3) {
            return NONE;
        }
        Frames frames = world.frames;
        if (what == 0) {
            return frames.bytesSentOf(key);
        }
        if (what == 1) {
            return frames.cameOf(key);
        }
        return what == 2 ? frames.greatestWaitOf(key) : frames.waitsOf(key);
    }

    public int uneven() {
        return world.frames.unevenness();
    }

    public int ahead(int k) {
        return k < 0 ? NONE : trial.sentInTurn(world, k);
    }

    public int drain(int e, int what) {
        if (e < 0 || e > PAUSE_MOST || what < 0 || what > 4) {
            return NONE;
        }
        return trial.afterDrain(world, e, what);
    }

    public int leastTarget(int e) {
        return e < 0 || e > PAUSE_MOST ? NONE : trial.targetWithoutDrops(world, e);
    }

    public int bestQuantum(int e) {
        return e < 0 || e > PAUSE_MOST ? NONE : trial.quantumOfLeastWaits(world, e);
    }

    public int shared() {
        return world.frames.strangeKeys();
    }

    public int within(int a, int b) {
        if (a < 0 || b < a || b > WAIT_MOST) {
            return NONE;
        }
        return world.frames.sentWithin(a, b);
    }

    public int middle() {
        return world.frames.middleWait();
    }

    public int load(int set) {
        if (set < 0 || set >= world.settings[SETS]) {
            return NONE;
        }
        int keys = 0;
        for (int key = 0; key < KEYS; key++) {
            if (world.setOf(key) == set) {
                keys++;
            }
        }
        return keys;
    }

    public int count(int what) {
        switch (what) {
            case 0: return world.now;
            case 1: return world.frames.size;
            case 2: return world.standing;
            case 3: return world.standingBytes;
            case 4: return world.frames.tally[SENT];
            case 5: return world.frames.tally[DROPPED];
            case 6: return world.frames.tally[MARKED];
            case 7: return world.frames.tally[PUSHED];
            case 8: return world.bucketCount();
            case 9: return world.bucketCount() - world.lists.size;
            case 10: return world.watches.size;
            case 11: return world.settings[TARGET];
            case 12: return world.settings[INTERVAL];
            case 13: return world.settings[QUANTUM];
            case 14: return world.settings[LIMIT];
            case 15: return world.settings[SMALL];
            case 16: return reader.tapeLength;
            case 17: return world.settings[RATE];
            case 18: return world.mostStood;
            case 19: return world.senderCount;
            default: return NONE;
        }
    }

    /** Does the lines that the reader found, as they stand. */
    private void perform() {
        int at = 0;
        for (int line = 0; line < reader.lines; line++) {
            int word = reader.orderAt(at);
            int number = reader.orderAt(at + 1);
            if (word >= 0 && word < SENDER) {
                world.settings[word] = number;
            } else if (word == SENDER) {
                world.addSender(reader, at + 1);
            } else if (word == COME) {
                world.arrive(number, reader.orderAt(at + 2), reader.orderAt(at + 3), ABSENT);
            } else if (word == PASS) {
                world.now += number;
            } else if (word == GO) {
                for (int i = 0; i < number; i++) {
                    world.serve();
                }
            } else if (word == RUN) {
                for (int i = 0; i < number; i++) {
                    world.tick();
                }
            }
            at += 1 + numbersOf(word);
        }
    }

    private static int numbersOf(int word) {
        return word < 0 || word >= WORDS ? 0 : RANGE_OF[word + 1] - RANGE_OF[word];
    }

    private static boolean fits(int range, int number) {
        return range >= 0 && range < LOWEST.length && range < HIGHEST.length
            && number >= LOWEST[range] && number <= HIGHEST[range];
    }

    private static int remainder(int number, int by) {
        return by > 0 ? number % by : 0;
    }

    private static int quotientUp(int number, int by) {
        return by > 0 ? (number + by - 1) / by : 0;
    }

    private static int quotientDown(int number, int by) {
        return by > 0 ? number / by : 0;
    }

    /** Reciprocal roots in whole numbers, 65536 for one. */
    private static final class Roots {
        static final int COUNT_MOST = 999;
        static final int FIRST = 65535;

        /** One of Newton's steps: long, as a root's square is beyond int. */
        static int step(int root, int count) {
            long square = ((long) root * root) >> 16;
            long next = (root * (196608L - count * square)) >> 17;
            if (next < 1) {
                return 1;
            }
            return next > FIRST ? FIRST : (int) next;
        }

        static int stepped(int n) {
            int root = FIRST;
            for (int count = 2; count <= n; count++) {
                root = step(root, count);
            }
            return root;
        }

        /** The greatest r up to FIRST whose square, n times, is at most the square of 65536. */
        static int trueRoot(int n) {
            int low = 0;
            int high = FIRST;
            for (int halving = 0; halving < 20 && low < high; halving++) {
                int mid = (low + high + 1) >> 1;
                if ((long) mid * mid * n <= (1L << 32)) {
                    low = mid;
                } else {
                    high = mid - 1;
                }
            }
            return low;
        }

        /** The first count up to n that is off the most (what 0), or by how much it is (1). */
        static int worst(int n, int what) {
            int root = FIRST;
            int worstCount = 1;
            int worstGap = 0;
            for (int count = 1; count <= n; count++) {
                if (count > 1) {
                    root = step(root, count);
                }
                int gap = Math.abs(root - trueRoot(count));
                if (gap > worstGap) {
                    worstGap = gap;
                    worstCount = count;
                }
            }
            return what == 0 ? worstCount : worstGap;
        }
    }

    /** Holds the tape, and reads a text of it into a row of orders, or finds its first fault. */
    private static final class Reader {
        private static final int END = 0;
        private static final int WORD = 1;
        private static final int NUMBER = 2;
        private static final int STOP = 3;
        private static final int OTHER = 4;

        /** Beyond every range, and far from where ten times as much would not fit. */
        private static final int TOO_MUCH = 100000;

        private final int[] tape = new int[TAPE_MOST];
        private int tapeLength = 0;
        private int length = 0;
        private int place = 0;
        private int token = END;
        private int start = 0;
        private int value = 0;

        /** Each order: its word, then its numbers. No text has more of them than bytes. */
        private final int[] orders = new int[TAPE_MOST];
        private int orderCount = 0;
        private int lines = 0;
        private int faultKind = 0;
        private int faultPlace = NONE;

        private int toldSettings = 0;
        private int comes = 0;
        private int senderLines = 0;
        private final int[] senderKeys = new int[SENDERS_MOST];
        private boolean underWay = false;

        /** The four bytes of a number come behind the tape, the highest first. */
        void append(int number) {
            for (int shift = 24; shift >= 0 && tapeLength < TAPE_MOST; shift -= 8) {
                tape[tapeLength] = (number >>> shift) & 255;
                tapeLength++;
            }
        }

        int orderAt(int at) {
            return at >= 0 && at < orderCount && at < TAPE_MOST ? orders[at] : NONE;
        }

        void read(int n) {
            length = Math.min(n, TAPE_MOST);
            place = 0;
            orderCount = 0;
            lines = 0;
            faultKind = 0;
            faultPlace = NONE;
            toldSettings = 0;
            comes = 0;
            senderLines = 0;
            underWay = false;
            nextToken();
            for (int line = 0; line <= length && token != END && faultKind == 0; line++) {
                readLine();
            }
        }

        private void readLine() {
            if (token != WORD) {
                refuse(1);
                return;
            }
            int word = value;
            checkWord(word);
            put(word);
            int numbers = numbersOf(word);
            for (int i = 0; i < numbers && faultKind == 0; i++) {
                nextToken();
                readNumber(RANGE_OF[word] + i);
            }
            if (faultKind != 0) {
                return;
            }
            nextToken();
            if (token != STOP) {
                refuse(1);
                return;
            }
            lines++;
            nextToken();
        }

        /** The least fault first, as of one place the least is told. */
        private void checkWord(int word) {
            if (word > SENDER) {
                underWay = true;
            } else if (underWay) {
                refuse(1);
                return;
            }
            if (word == SENDER) {
                senderLines++;
            }
            if (word == COME) {
                comes++;
            }
            if (senderLines > SENDERS_MOST || comes > FRAMES_MOST) {
                refuse(2);
            }
            if (word < SENDER) {
                if ((toldSettings >> word & 1) == 1) {
                    refuse(3);
                }
                toldSettings |= 1 << word;
            }
        }

        private void readNumber(int range) {
            if (token != NUMBER) {
                refuse(1);
            } else if (!fits(range, value)) {
                refuse(2);
            } else if (range == SENDER_KEY_RANGE && isToldKey()) {
                refuse(3);
            }
            put(value);
        }

        /** Whether an earlier sender has the key; it is kept for the later ones. */
        private boolean isToldKey() {
            int last = Math.min(senderLines, SENDERS_MOST) - 1;
            for (int i = 0; i < last; i++) {
                if (senderKeys[i] == value) {
                    return true;
                }
            }
            if (last >= 0) {
                senderKeys[last] = value;
            }
            return false;
        }

        private void put(int number) {
            if (orderCount < TAPE_MOST) {
                orders[orderCount] = number;
                orderCount++;
            }
        }

        private void refuse(int kind) {
            if (faultKind == 0) {
                faultKind = kind;
                faultPlace = start;
            }
        }

        private void nextToken() {
            while (place < length && (tape[place] == 10 || tape[place] == 32)) {
                place++;
            }
            start = place;
            if (place >= length) {
                token = END;
            } else if (isDigit(tape[place])) {
                scanNumber();
            } else if (isLetter(tape[place])) {
                scanWord();
            } else {
                token = tape[place] == ';' ? STOP : OTHER;
                place++;
            }
        }

        private void scanNumber() {
            token = NUMBER;
            value = 0;
            while (place < length && isDigit(tape[place])) {
                value = Math.min(value * 10 + tape[place] - '0', TOO_MUCH);
                place++;
            }
        }

        private void scanWord() {
            while (place < length && isLetter(tape[place])) {
                place++;
            }
            token = OTHER;
            for (int word = 0; word < WORDS && token == OTHER; word++) {
                if (isSpelled(spelling(word))) {
                    token = WORD;
                    value = word;
                }
            }
        }

        private boolean isSpelled(String word) {
            if (place - start != word.length()) {
                return false;
            }
            for (int i = 0; i < word.length(); i++) {
                if (tape[start + i] != word.charAt(i)) {
                    return false;
                }
            }
            return true;
        }

        private static boolean isDigit(int sign) {
            return sign >= '0' && sign <= '9';
        }

        private static boolean isLetter(int sign) {
            return sign >= 'a' && sign <= 'z';
        }

        private static String spelling(int word) {
            switch (word) {
                case TARGET: return "target";
                case INTERVAL: return "interval";
                case QUANTUM: return "quantum";
                case SETS: return "sets";
                case WAYS: return "ways";
                case LIMIT: return "limit";
                case SMALL: return "small";
                case RATE: return "rate";
                case SENDER: return "sender";
                case COME: return "come";
                case PASS: return "pass";
                case GO: return "go";
                case RUN: return "run";
                default: return "";
            }
        }
    }

    /** All frames that came, by their numbers, and the order in which they left. */
    private static final class Frames {
        private final int[] key = new int[FRAMES_MOST];
        private final int[] bytes = new int[FRAMES_MOST];
        private final int[] may = new int[FRAMES_MOST];
        private final int[] came = new int[FRAMES_MOST];
        private final int[] place = new int[FRAMES_MOST];
        private final int[] owner = new int[FRAMES_MOST];
        private final int[] strange = new int[FRAMES_MOST];
        private final int[] marked = new int[FRAMES_MOST];
        private final int[] fate = new int[FRAMES_MOST];
        private final int[] when = new int[FRAMES_MOST];
        private final int[] behind = new int[FRAMES_MOST];
        private final int[] ended = new int[FRAMES_MOST];
        private final int[] tally = new int[TALLIES];
        private int size = 0;
        private int endedSize = 0;

        void clear() {
            size = 0;
            endedSize = 0;
            for (int i = 0; i < TALLIES; i++) {
                tally[i] = 0;
            }
        }

        void copyFrom(Frames other) {
            size = other.size;
            endedSize = other.endedSize;
            System.arraycopy(other.key, 0, key, 0, size);
            System.arraycopy(other.bytes, 0, bytes, 0, size);
            System.arraycopy(other.may, 0, may, 0, size);
            System.arraycopy(other.came, 0, came, 0, size);
            System.arraycopy(other.place, 0, place, 0, size);
            System.arraycopy(other.owner, 0, owner, 0, size);
            System.arraycopy(other.strange, 0, strange, 0, size);
            System.arraycopy(other.marked, 0, marked, 0, size);
            System.arraycopy(other.fate, 0, fate, 0, size);
            System.arraycopy(other.when, 0, when, 0, size);
            System.arraycopy(other.behind, 0, behind, 0, size);
            System.arraycopy(other.ended, 0, ended, 0, endedSize);
            System.arraycopy(other.tally, 0, tally, 0, TALLIES);
        }

        boolean has(int f) {
            return f >= 0 && f < size && f < FRAMES_MOST;
        }

        /** A new frame that stands behind none yet; whoever adds looks that there is room. */
        int add(int itsKey, int itsBytes, int itsMay, int now, int sender, int bucket, int tag) {
            int f = size;
            if (f >= FRAMES_MOST) {
                return ABSENT;
            }
            size++;
            key[f] = itsKey;
            bytes[f] = itsBytes;
            may[f] = itsMay;
            came[f] = now;
            place[f] = bucket;
            owner[f] = sender;
            strange[f] = tag != itsKey ? 1 : 0;
            marked[f] = 0;
            fate[f] = STANDS;
            when[f] = ABSENT;
            behind[f] = ABSENT;
            return f;
        }

        /** Looks at f without has(): it stands eight calls deep already. */
        void end(int f, int itsFate, int now) {
            boolean isThere = f >= 0 && f < size && f < FRAMES_MOST;
            if (!isThere || endedSize >= FRAMES_MOST || itsFate < 0 || itsFate >= TALLIES) {
                return;
            }
            fate[f] = itsFate;
            when[f] = now;
            ended[endedSize] = f;
            endedSize++;
            tally[itsFate]++;
        }

        int endedOne(int i) {
            return i >= 0 && i < endedSize && i < FRAMES_MOST ? ended[i] : ABSENT;
        }

        /** The frame that left as the i-th, if it was sent. */
        private int sentOne(int i) {
            int f = endedOne(i);
            return has(f) && fate[f] == SENT ? f : ABSENT;
        }

        int tell(int f, int what) {
            if (!has(f)) {
                return NONE;
            }
            switch (what) {
                case 0: return key[f];
                case 1: return bytes[f];
                case 2: return may[f];
                case 3: return came[f];
                case 4: return place[f];
                case 5: return marked[f];
                case 6: return fate[f];
                case 7: return when[f];
                default: return NONE;
            }
        }

        /** The frame that stands i behind a frame. */
        int along(int first, int i) {
            int f = first;
            for (int step = 0; step < i && step < FRAMES_MOST && has(f); step++) {
                f = behind[f];
            }
            return has(f) && i < FRAMES_MOST ? f : ABSENT;
        }

        /** A marked frame is sent by the same serving, so marks have the order of the ends too. */
        int endedAs(int kind, int i) {
            int left = i;
            for (int e = 0; e < endedSize; e++) {
                int f = endedOne(e);
                if (has(f) && (kind == MARKED ? marked[f] == 1 : fate[f] == kind)) {
                    if (left == 0) {
                        return f;
                    }
                    left--;
                }
            }
            return ABSENT;
        }

        int waitOf(int f) {
            return when[f] - came[f];
        }

        int bytesSentOf(int aKey) {
            int sum = 0;
            for (int f = 0; f < size; f++) {
                if (key[f] == aKey && fate[f] == SENT) {
                    sum += bytes[f];
                }
            }
            return sum;
        }

        int cameOf(int aKey) {
            int number = 0;
            for (int f = 0; f < size; f++) {
                if (key[f] == aKey) {
                    number++;
                }
            }
            return number;
        }

        int greatestWaitOf(int aKey) {
            int greatest = ABSENT;
            for (int f = 0; f < size; f++) {
                if (key[f] == aKey && fate[f] == SENT) {
                    greatest = Math.max(greatest, waitOf(f));
                }
            }
            return greatest;
        }

        int waitsOf(int aKey) {
            int sum = 0;
            for (int f = 0; f < size; f++) {
                if (key[f] == aKey && fate[f] == SENT) {
                    sum += waitOf(f);
                }
            }
            return sum;
        }

        /** Of the sent ones among those that left from the i-th on: their bytes together. */
        int bytesSentFrom(int i) {
            int sum = 0;
            for (int e = Math.max(i, 0); e < endedSize; e++) {
                int f = sentOne(e);
                if (has(f)) {
                    sum += bytes[f];
                }
            }
            return sum;
        }

        int waitsFrom(int i) {
            int sum = 0;
            for (int e = Math.max(i, 0); e < endedSize; e++) {
                int f = sentOne(e);
                if (has(f)) {
                    sum += waitOf(f);
                }
            }
            return sum;
        }

        int greatestWaitFrom(int i) {
            int greatest = ABSENT;
            for (int e = Math.max(i, 0); e < endedSize; e++) {
                int f = sentOne(e);
                if (has(f)) {
                    greatest = Math.max(greatest, waitOf(f));
                }
            }
            return greatest;
        }

        int unevenness() {
            if (size == 0) {
                return ABSENT;
            }
            int most = bytesSentOf(key[0]);
            int fewest = most;
            for (int f = 1; f < size; f++) {
                int sent = bytesSentOf(key[f]);
                most = Math.max(most, sent);
                fewest = Math.min(fewest, sent);
            }
            return most - fewest;
        }

        int strangeKeys() {
            int keys = 0;
            for (int f = 0; f < size; f++) {
                if (strange[f] == 1 && !wasStrangeBefore(f)) {
                    keys++;
                }
            }
            return keys;
        }

        private boolean wasStrangeBefore(int f) {
            for (int earlier = 0; earlier < f; earlier++) {
                if (strange[earlier] == 1 && key[earlier] == key[f]) {
                    return true;
                }
            }
            return false;
        }

        int sentWithin(int low, int high) {
            int number = 0;
            for (int f = 0; f < size; f++) {
                if (fate[f] == SENT && waitOf(f) >= low && waitOf(f) <= high) {
                    number++;
                }
            }
            return number;
        }

        /** The least wait up to which more than half of the sent ones waited: no row to sort. */
        int middleWait() {
            int sent = tally[SENT];
            if (sent == 0) {
                return ABSENT;
            }
            int low = 0;
            int high = WAIT_MOST;
            for (int halving = 0; halving < 30 && low < high; halving++) {
                int mid = (low + high) >> 1;
                if (sentWithin(0, mid) > sent / 2) {
                    high = mid;
                } else {
                    low = mid + 1;
                }
            }
            return low;
        }
    }

    /** A bucket, and what its keeper knows. */
    private static final class Bucket {
        private int tag = ABSENT;
        private int first = ABSENT;
        private int last = ABSENT;
        private int frames = 0;
        private int bytes = 0;
        private int deficit = 0;
        private int list = FREE;
        private int drops = 0;
        private int dropsLast = 0;
        private int next = 0;
        private int above = ABSENT;
        private int root = Roots.FIRST;
        private boolean dropping = false;

        /** The number of the frame by which it began: those before it are of earlier times. */
        private int since = 0;

        void clear() {
            begin(ABSENT, 0, 0);
            first = ABSENT;
            last = ABSENT;
            frames = 0;
            bytes = 0;
            list = FREE;
        }

        void begin(int key, int quantum, int frame) {
            tag = key;
            deficit = quantum;
            since = frame;
            drops = 0;
            dropsLast = 0;
            next = 0;
            above = ABSENT;
            root = Roots.FIRST;
            dropping = false;
        }

        void copyFrom(Bucket other) {
            tag = other.tag;
            first = other.first;
            last = other.last;
            frames = other.frames;
            bytes = other.bytes;
            deficit = other.deficit;
            list = other.list;
            drops = other.drops;
            dropsLast = other.dropsLast;
            next = other.next;
            above = other.above;
            root = other.root;
            dropping = other.dropping;
            since = other.since;
        }

        int tell(int what) {
            switch (what) {
                case 0: return tag;
                case 1: return frames;
                case 2: return bytes;
                case 3: return deficit;
                case 4: return list;
                case 5: return drops;
                case 6: return dropsLast;
                case 7: return dropping ? 1 : 0;
                case 8: return next;
                case 9: return above;
                default: return root;
            }
        }

        /** The document's law: when to drop next, counted from a time. */
        int law(int time, int interval) {
            return time + (interval * root >> 16);
        }
    }

    /** The lists in one row, those of NEW ahead of those of OLD: its head is served first. */
    private static final class Lists {
        private final int[] row = new int[BUCKETS_MOST];
        private int fresh = 0;
        private int size = 0;

        void clear() {
            fresh = 0;
            size = 0;
        }

        void copyFrom(Lists other) {
            fresh = other.fresh;
            size = other.size;
            System.arraycopy(other.row, 0, row, 0, BUCKETS_MOST);
        }

        int at(int i) {
            return i >= 0 && i < size && i < BUCKETS_MOST ? row[i] : ABSENT;
        }

        boolean hasOld() {
            return size > fresh;
        }

        void addNew(int k) {
            if (size >= BUCKETS_MOST) {
                return;
            }
            for (int i = size; i > fresh; i--) {
                row[i] = row[i - 1];
            }
            row[fresh] = k;
            fresh++;
            size++;
        }

        void removeHead() {
            if (size <= 0) {
                return;
            }
            for (int i = 1; i < size; i++) {
                row[i - 1] = row[i];
            }
            size--;
            fresh = Math.max(fresh - 1, 0);
        }

        void headToOld() {
            int head = at(0);
            removeHead();
            if (head >= 0 && size < BUCKETS_MOST) {
                row[size] = head;
                size++;
            }
        }
    }

    /** Whoever sends frames of its own as its window lets it. */
    private static final class Sender {
        private static final int WINDOW_MOST = 2000;
        private static final int WINDOW_LEAST = 100;

        private int key = 0;
        private int bytes = 0;
        private int window = WINDOW_LEAST;
        private int delay = 0;
        private int may = 0;
        private int out = 0;
        private int cuts = 0;
        private int cutAt = ABSENT;
        private int heard = 0;

        /** How many of the frames that ended it has looked at. */
        private int seen = 0;

        void begin(Reader reader, int at) {
            key = reader.orderAt(at);
            bytes = reader.orderAt(at + 1);
            window = 100 * reader.orderAt(at + 2);
            delay = reader.orderAt(at + 3);
            may = reader.orderAt(at + 4);
            out = 0;
            cuts = 0;
            cutAt = ABSENT;
            heard = 0;
            seen = 0;
        }

        void copyFrom(Sender other) {
            key = other.key;
            bytes = other.bytes;
            window = other.window;
            delay = other.delay;
            may = other.may;
            out = other.out;
            cuts = other.cuts;
            cutAt = other.cutAt;
            heard = other.heard;
            seen = other.seen;
        }

        int tell(int what) {
            switch (what) {
                case 0: return key;
                case 1: return bytes;
                case 2: return window;
                case 3: return delay;
                case 4: return may;
                case 5: return out;
                case 6: return cuts;
                case 7: return cutAt;
                case 8: return heard;
                default: return NONE;
            }
        }

        boolean hasRoom() {
            return out * 100 < window - 99;
        }

        void hear(boolean isGood, int now) {
            out--;
            heard++;
            if (isGood) {
                window = Math.min(window + quotientDown(10000, window), WINDOW_MOST);
            } else if (cutAt == ABSENT || now - cutAt >= delay) {
                window = Math.max(window >> 1, WINDOW_LEAST);
                cutAt = now;
                cuts++;
            }
        }
    }

    /** What watches count. */
    private static final class Watches {
        private final int[] kinds = new int[WATCHES_MOST];
        private final int[] bounds = new int[WATCHES_MOST];
        private final int[] counted = new int[WATCHES_MOST];
        private int size = 0;

        int add(int kind, int bound) {
            int k = size;
            if (k >= WATCHES_MOST) {
                return ABSENT;
            }
            kinds[k] = kind;
            bounds[k] = bound;
            counted[k] = 0;
            size++;
            return k;
        }

        int tell(int k) {
            return k >= 0 && k < size && k < WATCHES_MOST ? counted[k] : ABSENT;
        }

        void note(int kind, int number) {
            for (int k = 0; k < size; k++) {
                boolean isMet;
                if (kind == WATCH_WAIT || kind == WATCH_MARKED) {
                    isMet = number >= bounds[k];
                } else if (kind == WATCH_DEFICIT) {
                    isMet = number < -bounds[k];
                } else {
                    isMet = number == bounds[k];
                }
                if (isMet && kinds[k] == kind) {
                    counted[k]++;
                }
            }
        }
    }

    /** Everything that time changes: buckets, their frames, who sends them, and who watches. */
    private static final class World {
        /** Far above the turns that any serving takes till a deficit is above 0. */
        private static final int TURNS_MOST = 1000000;

        private final int[] settings = new int[SENDER];
        private final Frames frames = new Frames();
        private final Bucket[] buckets = new Bucket[BUCKETS_MOST];
        private final Lists lists = new Lists();
        private final Sender[] senders = new Sender[SENDERS_MOST];
        private final Watches watches = new Watches();
        private int senderCount = 0;
        private int now = 0;
        private int standing = 0;
        private int standingBytes = 0;
        private int mostStood = 0;

        /** What the latest taking told. */
        private boolean late = false;

        /** The least wait taken that was not below TARGET: a TARGET up to it changes nothing. */
        private int leastLong = NEVER;

        World() {
            for (int k = 0; k < BUCKETS_MOST; k++) {
                buckets[k] = new Bucket();
            }
            for (int k = 0; k < SENDERS_MOST; k++) {
                senders[k] = new Sender();
            }
            System.arraycopy(FIRST_SETTINGS, 0, settings, 0, SENDER);
        }

        void clear() {
            System.arraycopy(FIRST_SETTINGS, 0, settings, 0, SENDER);
            frames.clear();
            for (int k = 0; k < BUCKETS_MOST; k++) {
                buckets[k].clear();
            }
            lists.clear();
            watches.size = 0;
            senderCount = 0;
            now = 0;
            standing = 0;
            standingBytes = 0;
            mostStood = 0;
        }

        /** All but the watches: what is only tried is not counted. */
        void copyFrom(World other) {
            System.arraycopy(other.settings, 0, settings, 0, SENDER);
            frames.copyFrom(other.frames);
            for (int k = 0; k < BUCKETS_MOST; k++) {
                buckets[k].copyFrom(other.buckets[k]);
            }
            lists.copyFrom(other.lists);
            for (int k = 0; k < SENDERS_MOST; k++) {
                senders[k].copyFrom(other.senders[k]);
            }
            senderCount = other.senderCount;
            now = other.now;
            standing = other.standing;
            standingBytes = other.standingBytes;
            mostStood = other.mostStood;
        }

        int bucketCount() {
            return settings[SETS] * settings[WAYS];
        }

        boolean hasBucket(int k) {
            return k >= 0 && k < bucketCount() && k < BUCKETS_MOST;
        }

        int setOf(int key) {
            return remainder((key * 40503 & 65535) >> 8, settings[SETS]);
        }

        int placeFor(int key) {
            int begin = setOf(key) * settings[WAYS];
            int end = Math.min(begin + settings[WAYS], BUCKETS_MOST);
            for (int k = begin; k < end; k++) {
                if (buckets[k].list != FREE && buckets[k].tag == key) {
                    return k;
                }
            }
            for (int k = begin; k < end; k++) {
                if (buckets[k].list == FREE) {
                    return k;
                }
            }
            return begin + remainder(key, settings[WAYS]);
        }

        void addSender(Reader reader, int at) {
            if (senderCount < SENDERS_MOST) {
                senders[senderCount].begin(reader, at);
                senderCount++;
            }
        }

        /** A frame comes: its number, or ABSENT if there are too many. */
        int arrive(int key, int bytes, int may, int owner) {
            int k = placeFor(key);
            if (frames.size >= FRAMES_MOST || !hasBucket(k)) {
                return ABSENT;
            }
            Bucket bucket = buckets[k];
            if (bucket.list == FREE) {
                bucket.begin(key, settings[QUANTUM], frames.size);
                bucket.list = NEW;
                lists.addNew(k);
            }
            int f = frames.add(key, bytes, may, now, owner, k, bucket.tag);
            link(bucket, f);
            mostStood = Math.max(mostStood, standing);
            if (standing > settings[LIMIT]) {
                pushOut();
            }
            return f;
        }

        private void link(Bucket bucket, int f) {
            if (!frames.has(f)) {
                return;
            }
            if (frames.has(bucket.last)) {
                frames.behind[bucket.last] = f;
            } else {
                bucket.first = f;
            }
            bucket.last = f;
            bucket.frames++;
            bucket.bytes += frames.bytes[f];
            standing++;
            standingBytes += frames.bytes[f];
        }

        /** The first frame of a bucket stands there no more. */
        private int unlink(Bucket bucket) {
            int f = bucket.first;
            if (f < 0 || f >= frames.size || f >= FRAMES_MOST) {
                return ABSENT;
            }
            bucket.first = frames.behind[f];
            if (bucket.first < 0) {
                bucket.last = ABSENT;
            }
            bucket.frames--;
            bucket.bytes -= frames.bytes[f];
            standing--;
            standingBytes -= frames.bytes[f];
            return f;
        }

        private void pushOut() {
            int longest = 0;
            int end = Math.min(bucketCount(), BUCKETS_MOST);
            for (int k = 1; k < end; k++) {
                if (buckets[k].bytes > buckets[longest].bytes) {
                    longest = k;
                }
            }
            frames.end(unlink(buckets[longest]), PUSHED, now);
            watches.note(WATCH_PUSHED, longest);
        }

        /** One is served: the frame that is sent, or ABSENT. */
        int serve() {
            for (int turn = 0; turn < TURNS_MOST; turn++) {
                int k = lists.at(0);
                if (!hasBucket(k)) {
                    return ABSENT;
                }
                Bucket bucket = buckets[k];
                if (bucket.deficit <= 0) {
                    bucket.deficit += settings[QUANTUM];
                    putBack(bucket);
                } else {
                    int f = keep(bucket);
                    if (frames.has(f)) {
                        send(bucket, f);
                        return f;
                    }
                    if (bucket.list == NEW && lists.hasOld()) {
                        putBack(bucket);
                    } else {
                        release(bucket);
                    }
                }
            }
            return ABSENT;
        }

        private void putBack(Bucket head) {
            head.list = OLD;
            lists.headToOld();
        }

        private void release(Bucket head) {
            head.list = FREE;
            lists.removeHead();
            watches.note(WATCH_FREE, head.tag);
        }

        private void send(Bucket bucket, int f) {
            frames.end(f, SENT, now);
            bucket.deficit -= frames.bytes[f];
            watches.note(WATCH_WAIT, frames.waitOf(f));
            watches.note(WATCH_DEFICIT, bucket.deficit);
            now += quotientUp(frames.bytes[f], settings[RATE]);
        }

        /** What a bucket's keeper gives out: a frame, or ABSENT. */
        private int keep(Bucket bucket) {
            int f = take(bucket);
            if (bucket.dropping) {
                if (late) {
                    return dropMore(bucket, f);
                }
                bucket.dropping = false;
                return f;
            }
            return late ? dropFirst(bucket, f) : f;
        }

        private int take(Bucket bucket) {
            int f = unlink(bucket);
            late = false;
            if (!frames.has(f)) {
                bucket.above = ABSENT;
                return f;
            }
            int wait = now - frames.came[f];
            if (wait >= settings[TARGET]) {
                leastLong = Math.min(leastLong, wait);
            }
            if (wait < settings[TARGET] || bucket.bytes < settings[SMALL]) {
                bucket.above = ABSENT;
            } else if (bucket.above == ABSENT) {
                bucket.above = now + settings[INTERVAL];
            } else {
                late = now >= bucket.above;
            }
            return f;
        }

        private int dropMore(Bucket bucket, int taken) {
            int f = taken;
            for (int turn = 0; turn < FRAMES_MOST && bucket.dropping; turn++) {
                if (now < bucket.next || !frames.has(f)) {
                    return f;
                }
                bucket.drops = Math.min(bucket.drops + 1, Roots.COUNT_MOST);
                bucket.root = Roots.step(bucket.root, bucket.drops);
                if (frames.may[f] == 1) {
                    mark(f);
                    bucket.next = bucket.law(bucket.next, settings[INTERVAL]);
                    return f;
                }
                drop(f);
                f = take(bucket);
                if (late) {
                    bucket.next = bucket.law(bucket.next, settings[INTERVAL]);
                } else {
                    bucket.dropping = false;
                }
            }
            return f;
        }

        private int dropFirst(Bucket bucket, int taken) {
            int f = taken;
            if (frames.has(f) && frames.may[f] == 1) {
                mark(f);
            } else {
                drop(f);
                f = take(bucket);
            }
            bucket.dropping = true;
            int recent = bucket.drops - bucket.dropsLast;
            if (recent > 1 && now - bucket.next < 16 * settings[INTERVAL]) {
                bucket.drops = recent;
                bucket.root = Roots.step(bucket.root, recent);
            } else {
                bucket.drops = 1;
                bucket.root = Roots.FIRST;
            }
            bucket.dropsLast = bucket.drops;
            bucket.next = bucket.law(now, settings[INTERVAL]);
            return f;
        }

        private void mark(int f) {
            if (frames.has(f) && frames.marked[f] == 0) {
                frames.marked[f] = 1;
                frames.tally[MARKED]++;
                watches.note(WATCH_MARKED, frames.bytes[f]);
            }
        }

        private void drop(int f) {
            if (frames.has(f)) {
                frames.end(f, DROPPED, now);
                watches.note(WATCH_DROPPED, frames.key[f]);
            }
        }

        void tick() {
            for (int k = 0; k < senderCount; k++) {
                letHear(k);
            }
            for (int k = 0; k < senderCount; k++) {
                letSend(k);
            }
            serve();
            now++;
        }

        /** Frames end in the order of time, so the first that it is too early for ends it. */
        private void letHear(int k) {
            Sender sender = senders[k];
            while (sender.seen < frames.endedSize) {
                int f = frames.endedOne(sender.seen);
                if (!frames.has(f) || frames.when[f] + sender.delay > now) {
                    return;
                }
                sender.seen++;
                if (frames.owner[f] == k) {
                    sender.hear(frames.fate[f] == SENT && frames.marked[f] == 0, now);
                }
            }
        }

        private void letSend(int k) {
            Sender sender = senders[k];
            for (int turn = 0; turn < FRAMES_MOST && sender.hasRoom(); turn++) {
                if (arrive(sender.key, sender.bytes, sender.may, k) < 0) {
                    return;
                }
                sender.out++;
            }
        }

        int windows() {
            int sum = 0;
            for (int k = 0; k < senderCount; k++) {
                sum += senders[k].window;
            }
            return sum;
        }

        int cuts() {
            int sum = 0;
            for (int k = 0; k < senderCount; k++) {
                sum += senders[k].cuts;
            }
            return sum;
        }

        int leastTaken(int k) {
            if (!hasBucket(k)) {
                return NONE;
            }
            int least = NEVER;
            for (int f = Math.max(buckets[k].since, 0); f < frames.size; f++) {
                boolean isTaken = frames.fate[f] == SENT || frames.fate[f] == DROPPED;
                if (frames.place[f] == k && isTaken && now - frames.when[f] < settings[INTERVAL]) {
                    least = Math.min(least, frames.waitOf(f));
                }
            }
            return least == NEVER ? ABSENT : least;
        }
    }

    /** Tries on a copy of the real world what would be. */
    private static final class Trial {
        private final World world = new World();

        /** How many had left already: what is behind them is new. */
        private int leftBefore = 0;

        private void begin(World real) {
            world.copyFrom(real);
            world.mostStood = 0;
            world.leastLong = NEVER;
            for (int i = 0; i < TALLIES; i++) {
                world.frames.tally[i] = 0;
            }
            leftBefore = world.frames.endedSize;
        }

        int afterTicks(World real, int n, int what) {
            begin(real);
            for (int tick = 0; tick < n; tick++) {
                world.tick();
            }
            if (what == 4) {
                return world.now;
            }
            return what == 5 ? world.windows() : tallyOf(what);
        }

        private int tallyOf(int what) {
            int kind = what < 0 || what >= PAST_KINDS.length ? NONE : PAST_KINDS[what];
            return kind < 0 || kind >= TALLIES ? NONE : world.frames.tally[kind];
        }

        int tickOfFirstCut(World real, int n) {
            begin(real);
            int cuts = world.cuts();
            for (int tick = 1; tick <= n; tick++) {
                world.tick();
                if (world.cuts() > cuts) {
                    return tick;
                }
            }
            return ABSENT;
        }

        /** A LIMIT pushes none out just if, without any, never more than it stand as one comes. */
        int limitWithoutPushes(World real, int n) {
            begin(real);
            world.settings[LIMIT] = FRAMES_MOST;
            for (int tick = 0; tick < n; tick++) {
                world.tick();
            }
            int limit = Math.max(world.mostStood, LOWEST[LIMIT]);
            return limit <= HIGHEST[LIMIT] ? limit : ABSENT;
        }

        /** Targets up to the least wait that was not below the last one would do just the same. */
        int targetOfMostBytes(World real, int n) {
            int best = LOWEST[TARGET];
            int most = -1;
            int target = best;
            for (int tries = 0; tries < HIGHEST[TARGET] && target <= HIGHEST[TARGET]; tries++) {
                begin(real);
                world.settings[TARGET] = target;
                for (int tick = 0; tick < n; tick++) {
                    world.tick();
                }
                int bytes = world.frames.bytesSentFrom(leftBefore);
                if (bytes > most) {
                    most = bytes;
                    best = target;
                }
                target = world.leastLong + 1;
            }
            return best;
        }

        int sentInTurn(World real, int k) {
            begin(real);
            for (int turn = 0; turn < FRAMES_MOST && world.standing > 0; turn++) {
                int f = world.serve();
                if (f >= 0 && turn == k) {
                    return f;
                }
            }
            return ABSENT;
        }

        int afterDrain(World real, int e, int what) {
            begin(real);
            drainCopy(e);
            if (what == 3) {
                return world.now;
            }
            return what == 4 ? world.frames.greatestWaitFrom(leftBefore) : tallyOf(what);
        }

        /** Each serving sends one or drops all, so there are no more of them than frames. */
        private void drainCopy(int e) {
            for (int turn = 0; turn < FRAMES_MOST && world.standing > 0; turn++) {
                world.serve();
                world.now += e;
            }
        }

        /** As with targetOfMostBytes, targets that would do just the same are left out. */
        int targetWithoutDrops(World real, int e) {
            int target = LOWEST[TARGET];
            for (int tries = 0; tries < HIGHEST[TARGET] && target <= HIGHEST[TARGET]; tries++) {
                begin(real);
                world.settings[TARGET] = target;
                drainCopy(e);
                if (world.frames.tally[DROPPED] == 0 && world.frames.tally[MARKED] == 0) {
                    return target;
                }
                target = world.leastLong + 1;
            }
            return ABSENT;
        }

        int quantumOfLeastWaits(World real, int e) {
            int best = 0;
            int least = 0;
            for (int quantum = 50; quantum <= HIGHEST[QUANTUM]; quantum += 50) {
                begin(real);
                world.settings[QUANTUM] = quantum;
                drainCopy(e);
                int waits = world.frames.waitsFrom(leftBefore);
                if (best == 0 || waits < least) {
                    least = waits;
                    best = quantum;
                }
            }
            return best;
        }
    }
}
