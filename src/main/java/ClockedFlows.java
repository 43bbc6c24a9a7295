import java.util.Arrays;

/**
 * Streams that carry their clocks: equations told as a text, a clock for each stream, an order in
 * which a tick can be worked, and ticks worked by memory that does not grow.
 */
public final class ClockedFlows {
    public static final int UNKNOWN = -1, BAD = -2, LATE = -3, FULL = -4, NIL = -8, NONE = -9;

    private static final int INPUT = 0, ALWAYS = 1, SUM = 2, MORE = 3, LESS = 4, CHOICE = 5;
    private static final int FOLLOW = 6, PAST = 7, START = 8, WHEN = 9, WHEN_NOT = 10, MERGE = 11;
    private static final String KIND_LETTERS = "IK+-<?FPAWNM";
    private static final int[] FIGURES_OF_KIND = {1, 1, 2, 2, 2, 3, 2, 1, 2, 2, 2, 3};

    private static final int MOST_STREAMS = 8, MOST_FIGURES = 3, MOST_LETTERS = 40;
    private static final int MOST_DOINGS = 14, MOST_SEEN = 6, MOST_SLOTS = 2;
    private static final int MOST_AHEAD = 40, MOST_SEEN_TICK = 12, MOST_RUNS = 30, MOST_CHANCES = 6;
    private static final int TOP_VALUE = 99, VALUES = 100;

    // A clock is BASE or 10 c + by. One number is enough, because the clock below it is always
    // the clock of c itself.
    private static final int BASE = -2, FREE = -1;

    private final Text text = new Text();
    private final Flow now = new Flow();
    private final Flow spare = new Flow();
    private final Sense sense = new Sense();
    private final Doings doings = new Doings();
    private final Sights sights = new Sights();
    private final Flow[] slots = new Flow[MOST_SLOTS];
    private final boolean[] slotKept = new boolean[MOST_SLOTS];
    private final int[] trail = new int[(MOST_AHEAD + 1) * MOST_STREAMS];
    private long theSeed = 0;

    public ClockedFlows() {
        for (int i = 0; i < MOST_SLOTS; i++) {
            slots[i] = new Flow();
        }
    }

    // ---- the program

    public int write(int letter) {
        if (letter < 0 || letter > 255) {
            return BAD;
        }
        return text.append(letter) ? text.length : FULL;
    }

    public int wipe() {
        int was = text.length;
        text.length = 0;
        return was;
    }

    public int fault() {
        return text.readInto(spare);
    }

    public int program() {
        if (text.readInto(spare) != NONE) {
            return LATE;
        }
        now.become(spare);
        now.restart();
        doings.forget();
        for (int i = 0; i < MOST_SLOTS; i++) {
            slotKept[i] = false;
        }
        sense.study(now);
        return soundness();
    }

    public int about(int what) {
        switch (what) {
            case 0: return now.count;
            case 1: return sense.clash;
            case 2: return sense.knot;
            case 3: return sense.raw;
            case 4: return soundness();
            case 5: return now.ticks;
            case 6: return now.thereBits();
            case 7: return doings.count;
            case 8: return sights.count;
            case 9: return text.length;
            default: return BAD;
        }
    }

    public int stream(int stream, int what) {
        if (!isStream(stream)) {
            return UNKNOWN;
        }
        switch (what) {
            case 0: return now.kindOf(stream);
            case 1: return sense.clash == NONE ? sense.depth[stream] : NONE;
            case 2: return sense.clash == NONE ? sense.order[stream] : NONE;
            case 3: return sense.clash == NONE ? sense.level[stream] : NONE;
            case 4: return now.valueOf(stream);
            default: return BAD;
        }
    }

    public int figure(int stream, int i) {
        if (!isStream(stream) || i < 0 || i >= figuresOf(now.kindOf(stream))) {
            return UNKNOWN;
        }
        return now.part(stream, i);
    }

    public int clock(int stream, int d) {
        if (!isStream(stream) || sense.clash != NONE || d < 0 || d >= sense.depth[stream]) {
            return UNKNOWN;
        }
        return sense.clockAt(stream, d);
    }

    // ---- doings

    public int tick(int a, int b) {
        if (!isValue(a) || !isValue(b)) {
            return BAD;
        }
        if (!sense.isSound()) {
            return LATE;
        }
        doings.remember(now);
        now.work(sense, a, b);
        return Integer.bitCount(now.thereBits());
    }

    public int afresh() {
        int was = now.ticks;
        doings.remember(now);
        now.restart();
        return was;
    }

    public int tell(int stream, int kind, int a, int b, int c) {
        if (!isStream(stream)) {
            return UNKNOWN;
        }
        if (!isEquation(kind, a, b, c)) {
            return BAD;
        }
        doings.remember(now);
        now.equate(stream, kind, a, b, c);
        now.restart();
        sense.study(now);
        return soundness();
    }

    public int undo() {
        if (doings.count == 0) {
            return LATE;
        }
        doings.takeBack(now);
        sense.study(now);
        return doings.count;
    }

    // ---- ticks to come

    public int later(int stream, int n, int a, int b) {
        if (!isStream(stream)) {
            return UNKNOWN;
        }
        if (n < 1 || n > MOST_AHEAD || !isValue(a) || !isValue(b)) {
            return BAD;
        }
        if (!sense.isSound()) {
            return LATE;
        }
        spare.become(now);
        for (int i = 0; i < n; i++) {
            spare.work(sense, a, b);
        }
        return spare.valueOf(stream);
    }

    public int first(int stream, int v, int a, int b) {
        if (!isStream(stream)) {
            return UNKNOWN;
        }
        if (!isValue(v) || !isValue(a) || !isValue(b)) {
            return BAD;
        }
        if (!sense.isSound()) {
            return LATE;
        }
        spare.become(now);
        for (int n = 1; n <= MOST_AHEAD; n++) {
            spare.work(sense, a, b);
            if (spare.valueOf(stream) == v) {
                return n;
            }
        }
        return NONE;
    }

    public int round(int a, int b, int what) {
        if (!isValue(a) || !isValue(b) || what < 0 || what > 1) {
            return BAD;
        }
        if (!sense.isSound()) {
            return LATE;
        }
        layTrail(a, b);
        for (int l = 1; l <= MOST_AHEAD; l++) {
            for (int t = 0; t + l <= MOST_AHEAD; t++) {
                if (sameOnTrail(t, t + l)) {
                    return what == 0 ? l : t;
                }
            }
        }
        return NONE;
    }

    public int judge(int n, long row) {
        if (n < 1 || n > 3 || row < 0 || row >= power(100000, n)) {
            return BAD;
        }
        if (!sense.isSound()) {
            return LATE;
        }
        spare.become(now);
        for (int i = 0; i < n; i++) {
            long told = row;
            for (int behind = i + 1; behind < n; behind++) {
                told /= 100000;
            }
            if (!holds((int) (told % 100000))) {
                return i;
            }
        }
        return NONE;
    }

    // ---- seen

    public int see(int t, int stream, int v, int was) {
        if (t < 1 || t > MOST_SEEN_TICK || stream < 0 || stream >= MOST_STREAMS) {
            return BAD;
        }
        if (!isValue(v) || was < 0 || was > 1) {
            return BAD;
        }
        return sights.add(t, stream, v, was) ? sights.count : FULL;
    }

    public int unsee() {
        int was = sights.count;
        sights.count = 0;
        return was;
    }

    public int inputs(int what) {
        if (what < 0 || what > 1) {
            return BAD;
        }
        if (!sense.isSound()) {
            return LATE;
        }
        int many = 0;
        int least = NONE;
        for (int pair = 0; pair < 100; pair++) {
            if (explains(pair / 10, pair % 10)) {
                least = many == 0 ? pair : least;
                many++;
            }
        }
        return what == 0 ? many : least;
    }

    // ---- chances

    public int odds(int stream, int v, int n, int x, boolean upper) {
        if (!isStream(stream)) {
            return UNKNOWN;
        }
        if (v < 0 || v > MOST_CHANCES || n < 1 || n > MOST_CHANCES || x < 0 || x > 10) {
            return BAD;
        }
        if (!sense.isSound()) {
            return LATE;
        }
        int above = 0;
        for (int path = 0; path < (1 << n); path++) {
            if (timesThere(stream, n, path) >= v) {
                above += weight(n, path, x);
            }
        }
        int below = (int) power(10, n);
        int shared = commonDivisor(above, below);
        if (shared == 0) {
            return NONE;
        }
        return (upper ? above : below) / shared;
    }

    public long seed(long v) {
        long was = theSeed;
        theSeed = v;
        return was;
    }

    public int runs(int m) {
        if (m < 1 || m > MOST_RUNS) {
            return BAD;
        }
        if (!sense.isSound()) {
            return LATE;
        }
        int together = 0;
        spare.become(now);
        for (int i = 0; i < m; i++) {
            theSeed = theSeed * 6364136223846793005L + 1442695040888963407L;
            int drawn = (int) (theSeed >>> 33);
            spare.work(sense, drawn % 10, drawn / 16 % 10);
            together += spare.sumOfThere();
        }
        return together;
    }

    // ---- slots

    public int keep(int slot) {
        if (slot < 0 || slot >= MOST_SLOTS) {
            return UNKNOWN;
        }
        carry(now, slots[slot]);
        slotKept[slot] = true;
        return now.ticks;
    }

    public int again(int slot) {
        if (slot < 0 || slot >= MOST_SLOTS) {
            return UNKNOWN;
        }
        if (!slotKept[slot]) {
            return LATE;
        }
        carry(slots[slot], now);
        doings.forget();
        sense.study(now);
        return now.ticks;
    }

    // ---- what the calls share

    private boolean isStream(int stream) {
        return stream >= 0 && stream < now.count && stream < MOST_STREAMS;
    }

    private int soundness() {
        return sense.isSound() ? 1 : 0;
    }

    private boolean isEquation(int kind, int a, int b, int c) {
        if (kind < INPUT || kind > MERGE) {
            return false;
        }
        return isFigure(kind, 0, a, now.count) && isFigure(kind, 1, b, now.count)
                && isFigure(kind, 2, c, now.count);
    }

    private void layTrail(int a, int b) {
        spare.become(now);
        for (int t = 0; t <= MOST_AHEAD; t++) {
            System.arraycopy(spare.held, 0, trail, t * MOST_STREAMS, MOST_STREAMS);
            spare.work(sense, a, b);
        }
    }

    private boolean sameOnTrail(int t, int u) {
        for (int s = 0; s < MOST_STREAMS; s++) {
            if (trail[t * MOST_STREAMS + s] != trail[u * MOST_STREAMS + s]) {
                return false;
            }
        }
        return true;
    }

    /** Whether one doing of a judged row can be, or is so; ticks and afresh are worked on spare. */
    private boolean holds(int told) {
        int one = told / 1000 % 10;
        int other = told / 100 % 10;
        int rest = told % 100;
        switch (told / 10000) {
            case 1:
                spare.work(sense, told / 100 % 100, rest);
                return true;
            case 2:
                spare.restart();
                return told == 20000;
            case 3:
                return isStream(one) && other == 0 && spare.valueOf(one) == rest;
            case 4:
                return isStream(one) && other == 0 && rest == 0 && spare.valueOf(one) == NONE;
            case 5:
                return isStream(one) && rest == 0 && sense.depth[one] == other;
            case 6:
                return isStream(one) && isStream(other) && rest == 0
                        && sense.settled[one] == sense.settled[other];
            default:
                return false;
        }
    }

    private boolean explains(int a, int b) {
        spare.become(now);
        spare.restart();
        int end = sights.lastTick();
        for (int t = 1; t <= end; t++) {
            spare.work(sense, a, b);
            if (!sights.fit(t, spare)) {
                return false;
            }
        }
        return true;
    }

    /** How often a stream is there in n ticks, when bit i of path is input 0 of tick i. */
    private int timesThere(int stream, int n, int path) {
        int times = 0;
        spare.become(now);
        for (int i = 0; i < n; i++) {
            spare.work(sense, (path >> i) & 1, 0);
            if (spare.valueOf(stream) != NONE) {
                times++;
            }
        }
        return times;
    }

    private static int weight(int n, int path, int x) {
        int product = 1;
        for (int i = 0; i < n; i++) {
            product *= ((path >> i) & 1) == 1 ? x : 10 - x;
        }
        return product;
    }

    private static int commonDivisor(int a, int b) {
        int x = a;
        int y = b;
        for (int i = 0; i < 64 && y != 0; i++) {
            int left = x % y;
            x = y;
            y = left;
        }
        return x;
    }

    private static long power(long base, int n) {
        long product = 1;
        for (int i = 0; i < n; i++) {
            product *= base;
        }
        return product;
    }

    /** Flows that stand in a row of objects go through here, since such a row may hold null. */
    private static void carry(Flow from, Flow to) {
        if (from != null && to != null) {
            to.become(from);
        }
    }

    /** The stream that a clock other than BASE is on, and so an index of any row of streams. */
    private static int streamOf(int clock) {
        int on = clock / 10;
        return on < 0 || on >= MOST_STREAMS ? 0 : on;
    }

    private static boolean isValue(int v) {
        return v >= 0 && v <= TOP_VALUE;
    }

    private static int figuresOf(int kind) {
        return kind < INPUT || kind > MERGE ? 0 : FIGURES_OF_KIND[kind];
    }

    private static boolean namesStream(int kind, int i) {
        if (kind == INPUT || kind == ALWAYS || kind == FOLLOW && i == 0) {
            return false;
        }
        return i < figuresOf(kind);
    }

    /** Whether a figure may stand at place i of an equation; a place that it has not takes 0. */
    private static boolean isFigure(int kind, int i, int figure, int count) {
        int limit = 10;
        if (i >= figuresOf(kind)) {
            limit = 1;
        } else if (kind == INPUT) {
            limit = 2;
        } else if (namesStream(kind, i)) {
            limit = count;
        }
        return figure >= 0 && figure < limit;
    }

    /** THE TEXT, and how it is read. */
    private static final class Text {
        final int[] letters = new int[MOST_LETTERS];
        int length = 0;

        boolean append(int letter) {
            if (length < 0 || length >= MOST_LETTERS) {
                return false;
            }
            letters[length] = letter;
            length++;
            return true;
        }

        /** The fault, or NONE: only then do the equations in the flow count. */
        int readInto(Flow flow) {
            if (length < 1 || letterAt(0) != 'S') {
                return 0;
            }
            if (length < 2 || letterAt(1) < '1' || letterAt(1) > '0' + MOST_STREAMS) {
                return 1;
            }
            int count = letterAt(1) - '0';
            flow.count = count;
            int place = 2;
            for (int s = 0; s < count; s++) {
                int wrong = readEquation(flow, s, place);
                if (wrong != NONE) {
                    return wrong;
                }
                place += 1 + figuresOf(flow.kindOf(s));
            }
            return place < length ? place : NONE;
        }

        private int readEquation(Flow flow, int s, int place) {
            if (place >= length) {
                return length;
            }
            int kind = KIND_LETTERS.indexOf((char) letterAt(place));
            if (kind < 0) {
                return place;
            }
            flow.equate(s, kind, 0, 0, 0);
            for (int i = 0; i < figuresOf(kind); i++) {
                int at = place + 1 + i;
                if (at >= length) {
                    return length;
                }
                int figure = letterAt(at) - '0';
                if (!isFigure(kind, i, figure, flow.count)) {
                    return at;
                }
                flow.setPart(s, i, figure);
            }
            return NONE;
        }

        private int letterAt(int place) {
            return place < 0 || place >= MOST_LETTERS ? 0 : letters[place];
        }
    }

    /** Equations, what is kept of them, the values of the last tick, and the tick. */
    private static final class Flow {
        int count = 0;
        int ticks = 0;
        final int[] kinds = new int[MOST_STREAMS];
        final int[] parts = new int[MOST_STREAMS * MOST_FIGURES];
        // Of F and P the value that comes next, of A whether it was there; of others 0.
        final int[] held = new int[MOST_STREAMS];
        // NONE is the value of what is not there.
        final int[] values = new int[MOST_STREAMS];

        Flow() {
            Arrays.fill(values, NONE);
        }

        void become(Flow other) {
            count = other.count;
            ticks = other.ticks;
            System.arraycopy(other.kinds, 0, kinds, 0, MOST_STREAMS);
            System.arraycopy(other.parts, 0, parts, 0, MOST_STREAMS * MOST_FIGURES);
            System.arraycopy(other.held, 0, held, 0, MOST_STREAMS);
            System.arraycopy(other.values, 0, values, 0, MOST_STREAMS);
        }

        void equate(int s, int kind, int a, int b, int c) {
            if (s < 0 || s >= MOST_STREAMS) {
                return;
            }
            kinds[s] = kind;
            setPart(s, 0, a);
            setPart(s, 1, b);
            setPart(s, 2, c);
        }

        void setPart(int s, int i, int figure) {
            if (s >= 0 && s < MOST_STREAMS && i >= 0 && i < MOST_FIGURES) {
                parts[s * MOST_FIGURES + i] = figure;
            }
        }

        int part(int s, int i) {
            if (s < 0 || s >= MOST_STREAMS || i < 0 || i >= MOST_FIGURES) {
                return 0;
            }
            return parts[s * MOST_FIGURES + i];
        }

        /** A figure that is a stream, and so an index of any row of streams. */
        int streamPart(int s, int i) {
            int figure = part(s, i);
            return figure < 0 || figure >= MOST_STREAMS ? 0 : figure;
        }

        int kindOf(int s) {
            return s < 0 || s >= MOST_STREAMS ? ALWAYS : kinds[s];
        }

        int valueOf(int s) {
            return s < 0 || s >= MOST_STREAMS ? NONE : values[s];
        }

        void restart() {
            ticks = 0;
            for (int s = 0; s < MOST_STREAMS; s++) {
                values[s] = NONE;
                held[s] = s < count ? heldAtFirst(s) : 0;
            }
        }

        private int heldAtFirst(int s) {
            switch (kindOf(s)) {
                case FOLLOW: return part(s, 0);
                case PAST: return NIL;
                default: return 0;
            }
        }

        int thereBits() {
            int bits = 0;
            for (int s = 0; s < MOST_STREAMS; s++) {
                if (values[s] != NONE) {
                    bits |= 1 << s;
                }
            }
            return bits;
        }

        int sumOfThere() {
            int sum = 0;
            for (int s = 0; s < MOST_STREAMS; s++) {
                if (values[s] != NONE) {
                    sum += 1 + (values[s] == NIL ? 0 : values[s]);
                }
            }
            return sum;
        }

        /** A tick; only a sound program has a turn for each of its streams. */
        void work(Sense sense, int a, int b) {
            Arrays.fill(values, NONE);
            for (int i = 0; i < MOST_STREAMS && i < count; i++) {
                int s = sense.turn[i];
                if (s >= 0 && s < MOST_STREAMS && isThere(sense.settled[s])) {
                    values[s] = reckon(s, a, b);
                }
            }
            // What was ahead is put down only here: what a stream follows may have a later turn.
            for (int s = 0; s < MOST_STREAMS && s < count; s++) {
                if (values[s] != NONE) {
                    held[s] = heldNext(s);
                }
            }
            ticks++;
        }

        private boolean isThere(int clock) {
            if (clock < 0) {
                return true;
            }
            int condition = valueOf(streamOf(clock));
            if (condition == NONE || condition == NIL) {
                return false;
            }
            return (condition != 0) == (clock % 10 == 1);
        }

        private int heldNext(int s) {
            switch (kindOf(s)) {
                case FOLLOW: return valueOf(part(s, 1));
                case PAST: return valueOf(part(s, 0));
                case START: return 1;
                default: return 0;
            }
        }

        private int reckon(int s, int a, int b) {
            int one = part(s, 0);
            int other = part(s, 1);
            switch (kindOf(s)) {
                case INPUT: return one == 0 ? a : b;
                case ALWAYS: return one;
                case SUM:
                case MORE:
                case LESS: return combine(kindOf(s), valueOf(one), valueOf(other));
                case CHOICE:
                case MERGE: return choose(valueOf(one), other, part(s, 2));
                case FOLLOW:
                case PAST: return held[s];
                case START: return valueOf(held[s] == 0 ? one : other);
                default: return valueOf(one);
            }
        }

        private int combine(int kind, int x, int y) {
            if (x == NIL || y == NIL) {
                return NIL;
            }
            switch (kind) {
                case SUM: return (x + y) % VALUES;
                case MORE: return (x - y + VALUES) % VALUES;
                default: return x < y ? 1 : 0;
            }
        }

        private int choose(int condition, int yes, int no) {
            if (condition == NIL) {
                return NIL;
            }
            return valueOf(condition != 0 ? yes : no);
        }
    }

    /** What can be said of equations ahead of all ticks: clocks, orders, levels. */
    private static final class Sense {
        int clash = NONE;
        int knot = 0;
        int raw = NONE;
        private int count = 0;
        // Streams whose clocks are made like share a group; what its clock is stands at the group.
        private final int[] group = new int[MOST_STREAMS];
        private final int[] bound = new int[MOST_STREAMS];
        final int[] settled = new int[MOST_STREAMS];
        final int[] depth = new int[MOST_STREAMS];
        final int[] order = new int[MOST_STREAMS];
        final int[] turn = new int[MOST_STREAMS];
        final int[] level = new int[MOST_STREAMS];

        boolean isSound() {
            return clash == NONE && knot == 0 && raw == NONE;
        }

        void study(Flow flow) {
            count = Math.min(flow.count, MOST_STREAMS);
            clash = findClash(flow);
            knot = 0;
            raw = NONE;
            if (clash == NONE) {
                settle();
                putInOrder(flow);
                findLevels(flow);
                raw = findRaw(flow);
            }
        }

        /** Clock d over BASE of a stream, for a d less than its depth. */
        int clockAt(int stream, int d) {
            int at = stream;
            for (int i = depth[stream] - 1; i > d && settled[at] >= 0; i--) {
                at = streamOf(settled[at]);
            }
            return settled[at];
        }

        private int findClash(Flow flow) {
            for (int s = 0; s < MOST_STREAMS; s++) {
                group[s] = s;
                bound[s] = FREE;
            }
            for (int s = 0; s < count; s++) {
                if (!meet(flow, s) || !haveEnds()) {
                    return s;
                }
            }
            return NONE;
        }

        private boolean meet(Flow flow, int s) {
            int one = flow.streamPart(s, 0);
            int other = flow.streamPart(s, 1);
            switch (flow.kindOf(s)) {
                case INPUT:
                    return bind(s, BASE);
                case WHEN:
                    return liken(one, other) && bind(s, 10 * other + 1);
                case WHEN_NOT:
                    return liken(one, other) && bind(s, 10 * other);
                case MERGE:
                    return liken(s, one) && bind(other, 10 * one + 1)
                            && bind(flow.streamPart(s, 2), 10 * one);
                default:
                    return likenAll(flow, s);
            }
        }

        private boolean likenAll(Flow flow, int s) {
            for (int i = 0; i < MOST_FIGURES; i++) {
                if (namesStream(flow.kindOf(s), i) && !liken(s, flow.streamPart(s, i))) {
                    return false;
                }
            }
            return true;
        }

        private boolean liken(int s, int t) {
            int kept = group[s];
            int given = group[t];
            if (kept == given) {
                return true;
            }
            if (bound[given] != FREE && !bind(s, bound[given])) {
                return false;
            }
            for (int i = 0; i < MOST_STREAMS; i++) {
                if (group[i] == given) {
                    group[i] = kept;
                }
            }
            return true;
        }

        private boolean bind(int s, int clock) {
            int at = group[s];
            if (bound[at] == FREE) {
                bound[at] = clock;
            }
            return bound[at] == clock;
        }

        /** A clock that is on itself, step by step, would be more steps long than there are streams. */
        private boolean haveEnds() {
            for (int s = 0; s < count; s++) {
                int at = group[s];
                for (int i = 0; i < MOST_STREAMS && bound[at] >= 0; i++) {
                    at = group[streamOf(bound[at])];
                }
                if (bound[at] >= 0) {
                    return false;
                }
            }
            return true;
        }

        private void settle() {
            for (int s = 0; s < count; s++) {
                settled[s] = bound[group[s]] == FREE ? BASE : bound[group[s]];
            }
            for (int s = 0; s < count; s++) {
                int steps = 0;
                for (int at = s; steps < MOST_STREAMS && settled[at] >= 0; steps++) {
                    at = streamOf(settled[at]);
                }
                depth[s] = steps;
            }
        }

        private void putInOrder(Flow flow) {
            Arrays.fill(order, NONE);
            Arrays.fill(turn, NONE);
            int ready = 0;
            for (int next = 0; next < count; next++) {
                int s = leastReady(flow, ready);
                if (s != NONE) {
                    order[s] = next;
                    turn[next] = s;
                    ready |= 1 << s;
                }
            }
            knot = ((1 << count) - 1) & ~ready;
        }

        private int leastReady(Flow flow, int ready) {
            for (int s = 0; s < count; s++) {
                if ((ready >> s & 1) == 0 && (waits(flow, s) & ~ready) == 0) {
                    return s;
                }
            }
            return NONE;
        }

        /** Of its clock's streams the topmost is enough: that one waits for those below it. */
        private int waits(Flow flow, int s) {
            int kind = flow.kindOf(s);
            int bits = settled[s] < 0 ? 0 : 1 << streamOf(settled[s]);
            if (kind == FOLLOW || kind == PAST) {
                return bits;
            }
            for (int i = 0; i < MOST_FIGURES; i++) {
                if (namesStream(kind, i)) {
                    bits |= 1 << flow.streamPart(s, i);
                }
            }
            return bits;
        }

        private void findLevels(Flow flow) {
            Arrays.fill(level, 0);
            // A 1 goes on by at least one stream in each pass, so as many passes are enough.
            for (int pass = 0; pass < MOST_STREAMS; pass++) {
                for (int s = 0; s < count; s++) {
                    level[s] = levelByParts(flow, s);
                }
            }
        }

        private int levelByParts(Flow flow, int s) {
            switch (flow.kindOf(s)) {
                case PAST: return 1;
                case SUM:
                case MORE:
                case LESS:
                case CHOICE: return highest(flow, s);
                case WHEN:
                case WHEN_NOT: return level[flow.streamPart(s, 0)];
                default: return 0;
            }
        }

        private int highest(Flow flow, int s) {
            int most = 0;
            for (int i = 0; i < MOST_FIGURES; i++) {
                if (namesStream(flow.kindOf(s), i)) {
                    most = Math.max(most, level[flow.streamPart(s, i)]);
                }
            }
            return most;
        }

        private int findRaw(Flow flow) {
            for (int s = 0; s < count; s++) {
                if (isRaw(flow, s)) {
                    return s;
                }
            }
            return NONE;
        }

        private boolean isRaw(Flow flow, int s) {
            switch (flow.kindOf(s)) {
                case PAST:
                case START: return level[flow.streamPart(s, 0)] == 1;
                case FOLLOW:
                case WHEN:
                case WHEN_NOT: return level[flow.streamPart(s, 1)] == 1;
                case MERGE: return highest(flow, s) == 1;
                default: return false;
            }
        }
    }

    /** The row of doings: for each the flow as it was ahead of it. */
    private static final class Doings {
        int count = 0;
        private int oldest = 0;
        private final Flow[] row = new Flow[MOST_DOINGS];

        Doings() {
            for (int i = 0; i < MOST_DOINGS; i++) {
                row[i] = new Flow();
            }
        }

        void forget() {
            count = 0;
        }

        void remember(Flow flow) {
            carry(flow, row[(oldest + count) % MOST_DOINGS]);
            if (count < MOST_DOINGS) {
                count++;
            } else {
                oldest = (oldest + 1) % MOST_DOINGS;
            }
        }

        void takeBack(Flow flow) {
            if (count > 0) {
                count--;
                carry(row[(oldest + count) % MOST_DOINGS], flow);
            }
        }
    }

    /** What was seen. */
    private static final class Sights {
        int count = 0;
        private final int[] at = new int[MOST_SEEN];
        private final int[] streams = new int[MOST_SEEN];
        private final int[] seen = new int[MOST_SEEN];
        private final boolean[] so = new boolean[MOST_SEEN];

        boolean add(int t, int stream, int v, int was) {
            if (count < 0 || count >= MOST_SEEN) {
                return false;
            }
            at[count] = t;
            streams[count] = stream;
            seen[count] = v;
            so[count] = was == 1;
            count++;
            return true;
        }

        int lastTick() {
            int last = 0;
            for (int i = 0; i < count && i < MOST_SEEN; i++) {
                last = Math.max(last, at[i]);
            }
            return last;
        }

        /** Whether all that was seen at tick t is so; a stream that is not told is never there. */
        boolean fit(int t, Flow flow) {
            for (int i = 0; i < count && i < MOST_SEEN; i++) {
                if (at[i] == t && (flow.valueOf(streams[i]) == seen[i]) != so[i]) {
                    return false;
                }
            }
            return true;
        }
    }
}
