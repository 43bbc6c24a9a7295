import java.math.BigInteger;
import java.util.ArrayList;
import java.util.Arrays;
import java.util.HashMap;
import java.util.List;
import java.util.Map;
import java.util.Random;
import java.util.regex.Matcher;
import java.util.regex.Pattern;

/**
 * Random calls, answered by the class and by a plain model of the document that is built in
 * another way: faults by a pattern, clocks by terms made like, values looked up in all the ticks
 * since AFRESH, with no memory kept.
 */
public final class ModelTest {
    static final int UNKNOWN = -1, BAD = -2, LATE = -3, FULL = -4, NIL = -8, NONE = -9;
    static final String LETTERS = "IK+-<?FPAWNM";
    static final String[] SHAPES = {"i", "v", "ab", "ab", "ab", "abc", "va", "a", "ab", "ac", "ac", "cab"};
    static final Pattern PROGRAM = programPattern();

    static Pattern programPattern() {
        StringBuilder all = new StringBuilder();
        for (int n = 1; n <= 8; n++) {
            StringBuilder one = new StringBuilder();
            for (int k = 0; k < 12; k++) {
                one.append(k == 0 ? "" : "|").append("\\Q").append(LETTERS.charAt(k)).append("\\E");
                for (char f : SHAPES[k].toCharArray()) {
                    one.append(f == 'i' ? "[01]" : f == 'v' ? "[0-9]" : "[0-" + (n - 1) + "]");
                }
            }
            all.append(n == 1 ? "" : "|").append("S").append(n).append("(?:").append(one).append("){").append(n).append("}");
        }
        return Pattern.compile(all.toString(), Pattern.DOTALL);
    }

    /** A clock as a term: a variable (of a stream), BASE, or one on another. */
    static final class Term {
        final int var; final Term under; final int on; final int by;
        Term(int var, Term under, int on, int by) { this.var = var; this.under = under; this.on = on; this.by = by; }
        static Term of(int s) { return new Term(s, null, -1, -1); }
        static Term base() { return new Term(-1, null, -1, -1); }
        static Term on(Term t, int c, int by) { return new Term(-1, t, c, by); }
        boolean isBase() { return var < 0 && under == null; }
    }

    static final class Likes {
        final Map<Integer, Term> is = new HashMap<>();
        Term walk(Term t) { while (t.var >= 0 && is.containsKey(t.var)) t = is.get(t.var); return t; }
        boolean occurs(int v, Term t) {
            t = walk(t);
            if (t.var >= 0) return t.var == v;
            return t.under != null && occurs(v, t.under);
        }
        boolean like(Term a, Term b) {
            a = walk(a); b = walk(b);
            if (a.var >= 0 && b.var == a.var) return true;
            if (a.var >= 0) { if (occurs(a.var, b)) return false; is.put(a.var, b); return true; }
            if (b.var >= 0) return like(b, a);
            if (a.isBase() || b.isBase()) return a.isBase() && b.isBase();
            return a.on == b.on && a.by == b.by && like(a.under, b.under);
        }
        /** From BASE upward: 10 c + by. */
        List<Integer> told(Term t) {
            t = walk(t);
            if (t.var >= 0 || t.isBase()) return new ArrayList<>();
            List<Integer> below = told(t.under);
            below.add(10 * t.on + t.by);
            return below;
        }
    }

    /** Equations with all that can be said ahead of ticks. */
    static final class Eqs {
        final int n; final int[] kind; final int[][] fig;
        int clash = NONE, knot = 0, raw = NONE;
        List<List<Integer>> clocks = new ArrayList<>();
        int[] order, level;

        Eqs(int[] kind, int[][] fig) {
            this.n = kind.length; this.kind = kind; this.fig = fig;
            Likes likes = new Likes();
            for (int s = 0; s < n && clash == NONE; s++) if (!asks(likes, s)) clash = s;
            if (clash != NONE) return;
            for (int s = 0; s < n; s++) clocks.add(likes.told(Term.of(s)));
            orders();
            levels();
        }
        int role(int s, char which) { return fig[s][SHAPES[kind[s]].indexOf(which)]; }
        List<Integer> streamsOf(int s) {
            List<Integer> all = new ArrayList<>();
            for (char f : SHAPES[kind[s]].toCharArray()) if ("abc".indexOf(f) >= 0) all.add(role(s, f));
            return all;
        }
        boolean asks(Likes l, int s) {
            char k = LETTERS.charAt(kind[s]);
            Term own = Term.of(s);
            if (k == 'I') return l.like(own, Term.base());
            if (k == 'K') return true;
            if (k == 'W' || k == 'N') {
                Term c = Term.of(role(s, 'c'));
                return l.like(Term.of(role(s, 'a')), c) && l.like(own, Term.on(c, role(s, 'c'), k == 'W' ? 1 : 0));
            }
            if (k == 'M') {
                int c = role(s, 'c');
                return l.like(own, Term.of(c)) && l.like(Term.of(role(s, 'a')), Term.on(own, c, 1))
                        && l.like(Term.of(role(s, 'b')), Term.on(own, c, 0));
            }
            for (int a : streamsOf(s)) if (!l.like(own, Term.of(a))) return false;
            return true;
        }
        void orders() {
            order = new int[n];
            Arrays.fill(order, NONE);
            int next = 0;
            boolean more = true;
            while (more) {
                more = false;
                for (int s = 0; s < n && !more; s++) {
                    if (order[s] != NONE) continue;
                    List<Integer> waits = new ArrayList<>();
                    if ("FP".indexOf(LETTERS.charAt(kind[s])) < 0) waits.addAll(streamsOf(s));
                    for (int c : clocks.get(s)) waits.add(c / 10);
                    boolean ready = true;
                    for (int w : waits) if (order[w] == NONE) ready = false;
                    if (ready) { order[s] = next++; more = true; }
                }
            }
            for (int s = 0; s < n; s++) if (order[s] == NONE) knot |= 1 << s;
        }
        void levels() {
            level = new int[n];
            boolean more = true;
            while (more) {
                more = false;
                for (int s = 0; s < n; s++) {
                    char k = LETTERS.charAt(kind[s]);
                    int want = k == 'P' ? 1 : 0;
                    if ("+-<?".indexOf(k) >= 0) for (int a : streamsOf(s)) want |= level[a];
                    if (k == 'W' || k == 'N') want = level[role(s, 'a')];
                    if (want > level[s]) { level[s] = want; more = true; }
                }
            }
            for (int s = n - 1; s >= 0; s--) {
                char k = LETTERS.charAt(kind[s]);
                boolean bad = false;
                if ("FPA".indexOf(k) >= 0) bad = level[role(s, 'a')] == 1;
                if ("WN".indexOf(k) >= 0) bad = level[role(s, 'c')] == 1;
                if (k == 'M') for (int a : streamsOf(s)) bad |= level[a] == 1;
                if (bad) raw = s;
            }
        }
        boolean sound() { return clash == NONE && knot == 0 && raw == NONE; }
        Eqs with(int s, int k, int[] f) {
            int[] kk = kind.clone(); int[][] ff = fig.clone();
            kk[s] = k; ff[s] = f;
            return new Eqs(kk, ff);
        }
    }

    /** Values of all ticks since AFRESH, by looking back, tick by tick. */
    static final class History {
        final Eqs e; final List<int[]> in; final Integer[][] known;
        History(Eqs e, List<int[]> in) { this.e = e; this.in = in; known = new Integer[in.size()][e.n]; }
        boolean there(int s, int t) {
            List<Integer> clock = e.clocks.get(s);
            for (int d = 0; d < clock.size(); d++) {
                int c = clock.get(d) / 10, by = clock.get(d) % 10;
                if (!there(c, t)) return false;
                if ((value(c, t) == 0 ? 0 : 1) != by) return false;
            }
            return true;
        }
        int value(int s, int t) {
            if (known[t][s] == null) known[t][s] = there(s, t) ? work(s, t) : NONE;
            return known[t][s];
        }
        int lastThere(int s, int t) {
            for (int u = t - 1; u >= 0; u--) if (value(s, u) != NONE) return u;
            return -1;
        }
        int at(int s, int t, char f) { return value(e.role(s, f), t); }
        int work(int s, int t) {
            char k = LETTERS.charAt(e.kind[s]);
            switch (k) {
                case 'I': return in.get(t)[e.fig[s][0]];
                case 'K': return e.fig[s][0];
                case '+': case '-': case '<': {
                    int x = at(s, t, 'a'), y = at(s, t, 'b');
                    if (x == NIL || y == NIL) return NIL;
                    if (k == '<') return x < y ? 1 : 0;
                    if (k == '+') return x + y >= 100 ? x + y - 100 : x + y;
                    return x < y ? x - y + 100 : x - y;
                }
                case '?': {
                    int x = at(s, t, 'a');
                    return x == NIL ? NIL : x != 0 ? at(s, t, 'b') : at(s, t, 'c');
                }
                case 'M': return at(s, t, 'c') != 0 ? at(s, t, 'a') : at(s, t, 'b');
                case 'A': return lastThere(s, t) < 0 ? at(s, t, 'a') : at(s, t, 'b');
                case 'F': case 'P': return next(s, t);
                default: return at(s, t, 'a');
            }
        }
        int next(int s, int t) {
            int u = lastThere(s, t);
            if (u >= 0) return at(s, u, 'a');
            return LETTERS.charAt(e.kind[s]) == 'F' ? e.fig[s][0] : NIL;
        }
        List<Integer> kept(int t) {
            List<Integer> all = new ArrayList<>();
            for (int s = 0; s < e.n; s++) {
                char k = LETTERS.charAt(e.kind[s]);
                if (k == 'F' || k == 'P') all.add(next(s, t));
                if (k == 'A') all.add(lastThere(s, t) >= 0 ? 1 : 0);
            }
            return all;
        }
    }

    static final class State {
        final Eqs e; final List<int[]> in;
        State(Eqs e, List<int[]> in) { this.e = e; this.in = in; }
        State ticked(int a, int b) {
            List<int[]> more = new ArrayList<>(in);
            more.add(new int[] {a, b});
            return new State(e, more);
        }
        State many(int n, int a, int b) { State s = this; for (int i = 0; i < n; i++) s = s.ticked(a, b); return s; }
        State fresh() { return new State(e, new ArrayList<>()); }
        int value(int s) {
            if (in.isEmpty() || s >= e.n) return NONE;
            return new History(e, in).value(s, in.size() - 1);
        }
        int there() {
            if (in.isEmpty()) return 0;
            History h = new History(e, in);
            int bits = 0;
            for (int s = 0; s < e.n; s++) if (h.there(s, in.size() - 1)) bits |= 1 << s;
            return bits;
        }
    }

    static final class Model {
        String text = "";
        State now = new State(new Eqs(new int[0], new int[0][]), new ArrayList<>());
        final List<State> doings = new ArrayList<>();
        final State[] slots = new State[2];
        final List<int[]> seen = new ArrayList<>();
        long seed = 0;

        int n() { return now.e.n; }
        boolean none(int s) { return s < 0 || s >= n(); }
        boolean v(int x) { return x >= 0 && x <= 99; }
        boolean within(int x, int lo, int hi) { return x >= lo && x <= hi; }
        void doing() { doings.add(now); if (doings.size() > 14) doings.remove(0); }
        int sound() { return now.e.sound() ? 1 : 0; }

        int write(int l) {
            if (!within(l, 0, 255)) return BAD;
            if (text.length() == 40) return FULL;
            text += (char) l;
            return text.length();
        }
        int wipe() { int w = text.length(); text = ""; return w; }
        int fault() {
            for (int i = 1; i <= text.length(); i++) {
                Matcher m = PROGRAM.matcher(text.substring(0, i));
                if (!m.matches() && !m.hitEnd()) return i - 1;
            }
            return PROGRAM.matcher(text).matches() ? NONE : text.length();
        }
        int program() {
            if (fault() != NONE) return LATE;
            int count = text.charAt(1) - '0', at = 2;
            int[] kind = new int[count]; int[][] fig = new int[count][];
            for (int s = 0; s < count; s++) {
                kind[s] = LETTERS.indexOf(text.charAt(at++));
                fig[s] = new int[SHAPES[kind[s]].length()];
                for (int i = 0; i < fig[s].length; i++) fig[s][i] = text.charAt(at++) - '0';
            }
            now = new State(new Eqs(kind, fig), new ArrayList<>());
            doings.clear();
            slots[0] = slots[1] = null;
            return sound();
        }
        int about(int what) {
            int[] all = {n(), now.e.clash, now.e.knot, now.e.raw, sound(), now.in.size(), now.there(), doings.size(), seen.size(), text.length()};
            return within(what, 0, 9) ? all[what] : BAD;
        }
        int stream(int s, int what) {
            if (none(s)) return UNKNOWN;
            boolean c = now.e.clash != NONE;
            switch (what) {
                case 0: return now.e.kind[s];
                case 1: return c ? NONE : now.e.clocks.get(s).size();
                case 2: return c ? NONE : now.e.order[s];
                case 3: return c ? NONE : now.e.level[s];
                case 4: return now.value(s);
                default: return BAD;
            }
        }
        int figure(int s, int i) {
            return none(s) || i < 0 || i >= now.e.fig[s].length ? UNKNOWN : now.e.fig[s][i];
        }
        int clock(int s, int d) {
            if (none(s) || now.e.clash != NONE || d < 0 || d >= now.e.clocks.get(s).size()) return UNKNOWN;
            return now.e.clocks.get(s).get(d);
        }
        int tick(int a, int b) {
            if (!v(a) || !v(b)) return BAD;
            if (sound() == 0) return LATE;
            doing();
            now = now.ticked(a, b);
            return Integer.bitCount(now.there());
        }
        int afresh() { int w = now.in.size(); doing(); now = now.fresh(); return w; }
        int tell(int s, int k, int a, int b, int c) {
            if (none(s)) return UNKNOWN;
            if (!within(k, 0, 11)) return BAD;
            int[] told = {a, b, c};
            String shape = SHAPES[k];
            for (int i = 0; i < 3; i++) {
                int top = i >= shape.length() ? 0 : shape.charAt(i) == 'i' ? 1 : shape.charAt(i) == 'v' ? 9 : n() - 1;
                if (!within(told[i], 0, top)) return BAD;
            }
            doing();
            now = new State(now.e.with(s, k, Arrays.copyOf(told, shape.length())), new ArrayList<>());
            return sound();
        }
        int undo() {
            if (doings.isEmpty()) return LATE;
            now = doings.remove(doings.size() - 1);
            return doings.size();
        }
        int later(int s, int n, int a, int b) {
            if (none(s)) return UNKNOWN;
            if (!within(n, 1, 40) || !v(a) || !v(b)) return BAD;
            return sound() == 0 ? LATE : now.many(n, a, b).value(s);
        }
        int first(int s, int x, int a, int b) {
            if (none(s)) return UNKNOWN;
            if (!v(x) || !v(a) || !v(b)) return BAD;
            if (sound() == 0) return LATE;
            State st = now.many(40, a, b);
            History h = new History(st.e, st.in);
            for (int i = 0; i < 40; i++) if (h.value(s, now.in.size() + i) == x) return i + 1;
            return NONE;
        }
        int round(int a, int b, int what) {
            if (!v(a) || !v(b) || !within(what, 0, 1)) return BAD;
            if (sound() == 0) return LATE;
            State st = now.many(40, a, b);
            History h = new History(st.e, st.in);
            List<List<Integer>> kept = new ArrayList<>();
            for (int t = 0; t <= 40; t++) kept.add(h.kept(now.in.size() + t));
            for (int l = 1; l <= 40; l++)
                for (int t = 0; t + l <= 40; t++)
                    if (kept.get(t).equals(kept.get(t + l))) return what == 0 ? l : t;
            return NONE;
        }
        int judge(int n, long row) {
            if (!within(n, 1, 3) || row < 0 || String.valueOf(row).length() > 5 * n) return BAD;
            if (sound() == 0) return LATE;
            StringBuilder r = new StringBuilder(String.valueOf(row));
            while (r.length() < 5 * n) r.insert(0, '0');
            State st = now;
            for (int i = 0; i < n; i++) {
                String d = r.substring(5 * i, 5 * i + 5);
                int x = d.charAt(1) - '0', y = d.charAt(2) - '0', z = Integer.parseInt(d.substring(3));
                boolean ok = false;
                if (d.matches("1....")) { st = st.ticked(Integer.parseInt(d.substring(1, 3)), z); ok = true; }
                if (d.equals("20000")) { st = st.fresh(); ok = true; }
                if (d.matches("3.0..")) ok = !none(x) && st.value(x) == z;
                if (d.matches("4.000")) ok = !none(x) && (st.there() >> x & 1) == 0;
                if (d.matches("5..00")) ok = !none(x) && st.e.clocks.get(x).size() == y;
                if (d.matches("6..00")) ok = !none(x) && !none(y) && st.e.clocks.get(x).equals(st.e.clocks.get(y));
                if (!ok) return i;
            }
            return NONE;
        }
        int see(int t, int s, int x, int was) {
            if (!within(t, 1, 12) || !within(s, 0, 7) || !v(x) || !within(was, 0, 1)) return BAD;
            if (seen.size() == 6) return FULL;
            seen.add(new int[] {t, s, x, was});
            return seen.size();
        }
        int unsee() { int w = seen.size(); seen.clear(); return w; }
        int inputs(int what) {
            if (!within(what, 0, 1)) return BAD;
            if (sound() == 0) return LATE;
            int many = 0, least = NONE;
            for (int a = 9; a >= 0; a--)
                for (int b = 9; b >= 0; b--) {
                    State st = now.fresh().many(12, a, b);
                    History h = new History(st.e, st.in);
                    boolean ok = true;
                    for (int[] o : seen) {
                        boolean is = o[1] < n() && h.there(o[1], o[0] - 1) && h.value(o[1], o[0] - 1) == o[2];
                        ok &= is == (o[3] == 1);
                    }
                    if (ok) { many++; least = 10 * a + b; }
                }
            return what == 0 ? many : least;
        }
        BigInteger chance(State st, int s, int times, int n, int x) {
            if (n == 0) return times <= 0 ? BigInteger.ONE : BigInteger.ZERO;
            BigInteger sum = BigInteger.ZERO;
            for (int bit = 0; bit < 2; bit++) {
                State to = st.ticked(bit, 0);
                int is = to.there() >> s & 1;
                sum = sum.add(BigInteger.valueOf(bit == 1 ? x : 10 - x).multiply(chance(to, s, times - is, n - 1, x)));
            }
            return sum;
        }
        int odds(int s, int times, int n, int x, boolean upper) {
            if (none(s)) return UNKNOWN;
            if (!within(times, 0, 6) || !within(n, 1, 6) || !within(x, 0, 10)) return BAD;
            if (sound() == 0) return LATE;
            BigInteger above = chance(now, s, times, n, x), below = BigInteger.TEN.pow(n), g = above.gcd(below);
            return (upper ? above : below).divide(g).intValueExact();
        }
        long seed(long x) { long w = seed; seed = x; return w; }
        int runs(int m) {
            if (!within(m, 1, 30)) return BAD;
            if (sound() == 0) return LATE;
            BigInteger whole = BigInteger.ONE.shiftLeft(64), x = BigInteger.valueOf(seed).mod(whole);
            State st = now;
            int sum = 0;
            for (int i = 0; i < m; i++) {
                x = x.multiply(new BigInteger("6364136223846793005")).add(new BigInteger("1442695040888963407")).mod(whole);
                long up = x.divide(BigInteger.ONE.shiftLeft(33)).longValueExact();
                st = st.ticked((int) (up % 10), (int) (up / 16 % 10));
                for (int s = 0; s < n(); s++) {
                    int val = st.value(s);
                    if (val != NONE) sum += 1;
                    if (val >= 0) sum += val;
                }
            }
            seed = x.longValue();
            return sum;
        }
        int keep(int slot) { if (!within(slot, 0, 1)) return UNKNOWN; slots[slot] = now; return now.in.size(); }
        int again(int slot) {
            if (!within(slot, 0, 1)) return UNKNOWN;
            if (slots[slot] == null) return LATE;
            now = slots[slot];
            doings.clear();
            return now.in.size();
        }
    }

    // ---- random texts and calls

    static String anyProgram(Random r) {
        int n = 1 + r.nextInt(8);
        StringBuilder t = new StringBuilder("S").append(n);
        for (int s = 0; s < n; s++) {
            int k = r.nextInt(12);
            t.append(LETTERS.charAt(k));
            for (char f : SHAPES[k].toCharArray()) t.append(f == 'i' ? r.nextInt(2) : f == 'v' ? r.nextInt(10) : r.nextInt(n));
        }
        return t.toString();
    }

    /** Mostly with clocks that fit: streams are picked by the clocks that they will have. */
    static String fittingProgram(Random r) {
        int n = 1 + r.nextInt(8);
        int[] kind = new int[n]; int[][] fig = new int[n][];
        String[] clock = new String[n];
        for (int s = 0; s < n; s++) {
            for (int tries = 0; clock[s] == null; tries++) {
                int k = tries > 30 ? 0 : r.nextInt(3) == 0 ? 9 + r.nextInt(3) : r.nextInt(12);
                if (k == 11) {
                    int a = r.nextInt(s + 1), b = r.nextInt(s + 1), c = r.nextInt(s + 1);
                    for (int i = 0; i < 200 && !(c < s && a < s && b < s && clock[a].equals(clock[c] + "/" + c + "1") && clock[b].equals(clock[c] + "/" + c + "0")); i++) {
                        a = r.nextInt(s + 1); b = r.nextInt(s + 1); c = r.nextInt(s + 1);
                    }
                    if (c >= s || a >= s || b >= s || !clock[a].equals(clock[c] + "/" + c + "1") || !clock[b].equals(clock[c] + "/" + c + "0")) continue;
                    fig[s] = new int[] {c, a, b};
                    clock[s] = clock[c];
                } else if (k == 0 || k == 1) {
                    fig[s] = new int[] {k == 0 ? r.nextInt(2) : r.nextInt(10)};
                    clock[s] = k == 1 && s > 0 && r.nextBoolean() ? clock[r.nextInt(s)] : "";
                } else {
                    if (s == 0) continue;
                    int lead = r.nextInt(s);
                    fig[s] = new int[SHAPES[k].length()];
                    for (int i = 0; i < fig[s].length; i++) {
                        int other = r.nextInt(s);
                        fig[s][i] = SHAPES[k].charAt(i) == 'v' ? r.nextInt(10) : clock[other].equals(clock[lead]) ? other : lead;
                    }
                    if ((k == 6 || k == 7) && r.nextInt(3) == 0) fig[s][fig[s].length - 1] = r.nextInt(n);
                    clock[s] = k == 9 || k == 10 ? clock[lead] + "/" + fig[s][1] + (k == 9 ? 1 : 0) : clock[lead];
                }
                kind[s] = k;
            }
        }
        return shuffled(r, kind, fig);
    }

    static String shuffled(Random r, int[] kind, int[][] fig) {
        int n = kind.length;
        int[] to = new int[n];
        for (int i = 0; i < n; i++) to[i] = i;
        if (r.nextBoolean()) for (int i = n - 1; i > 0; i--) { int j = r.nextInt(i + 1), x = to[i]; to[i] = to[j]; to[j] = x; }
        String[] parts = new String[n];
        for (int s = 0; s < n; s++) {
            StringBuilder p = new StringBuilder().append(LETTERS.charAt(kind[s]));
            for (int i = 0; i < fig[s].length; i++) p.append("iv".indexOf(SHAPES[kind[s]].charAt(i)) >= 0 ? fig[s][i] : to[fig[s][i]]);
            parts[to[s]] = p.toString();
        }
        return "S" + n + String.join("", parts);
    }

    static String spoilt(Random r, String t) {
        StringBuilder b = new StringBuilder(t);
        int at = r.nextInt(b.length());
        switch (r.nextInt(4)) {
            case 0: b.setCharAt(at, (char) r.nextInt(256)); break;
            case 1: b.setLength(at); break;
            case 2: b.insert(at, "SIK+-<?FPAWNM0123456789".charAt(r.nextInt(23))); break;
            default: b.append("SIK+-<?FPAWNM0123456789".charAt(r.nextInt(23)));
        }
        return b.toString();
    }

    final Random r;
    ClockedFlows x = new ClockedFlows();
    Model m = new Model();
    final List<String> log = new ArrayList<>();
    int calls = 0, soundCalls = 0;
    boolean wrong = false;

    ModelTest(long seed) { r = new Random(seed); }

    void same(String call, long got, long want) {
        calls++;
        log.add(call + " -> " + got);
        if (got != want && !wrong) {
            wrong = true;
            System.out.println("in a run of " + log);
            System.out.println(call + " answered " + got + ", the model says " + want);
        }
    }

    int pick(int lo, int hi) {
        int w = r.nextInt(40);
        if (w == 0) return lo - 1;
        if (w == 1) return hi + 1;
        if (w == 2) return r.nextInt();
        if (w == 3) return lo;
        if (w == 4) return hi;
        return lo + r.nextInt(hi - lo + 1);
    }
    int stream() { return pick(0, Math.max(0, m.n() - 1)); }
    int input() { return r.nextInt(3) == 0 ? pick(0, 99) : pick(0, 9); }

    void writeProgram() {
        same("wipe()", x.wipe(), m.wipe());
        String t = r.nextInt(5) == 0 ? anyProgram(r) : fittingProgram(r);
        for (int i = 0; i < 60 && !isSound(t) && r.nextInt(20) > 0; i++) t = fittingProgram(r);
        if (r.nextInt(6) == 0) t = spoilt(r, t);
        for (char l : t.toCharArray()) same("write(" + (int) l + ")", x.write(l), m.write(l));
        same("fault()", x.fault(), m.fault());
        same("program()", x.program(), m.program());
        for (int w = -1; w < 11; w++) same("about(" + w + ")", x.about(w), m.about(w));
        for (int s = 0; s < m.n(); s++) {
            for (int w = 0; w < 4; w++) same("stream(" + s + ", " + w + ")", x.stream(s, w), m.stream(s, w));
            same("clock(" + s + ", 0)", x.clock(s, 0), m.clock(s, 0));
            same("clock(" + s + ", 1)", x.clock(s, 1), m.clock(s, 1));
        }
    }

    static boolean isSound(String t) {
        Model probe = new Model();
        probe.text = t;
        return probe.program() == 1;
    }

    long row(int n) {
        if (r.nextInt(12) == 0) return r.nextLong() >> r.nextInt(64);
        long row = 0;
        for (int i = 0; i < n; i++) {
            int s = r.nextInt(Math.max(1, m.n())), o = r.nextInt(Math.max(1, m.n()));
            int value = Math.max(0, m.now.value(s));
            int[] all = {10000 + 100 * r.nextInt(3) + r.nextInt(3), 20000, 30000 + 1000 * s + value, 30000 + 1000 * s + r.nextInt(3),
                40000 + 1000 * s, 50000 + 1000 * s + 100 * r.nextInt(3), 60000 + 1000 * s + 100 * o, r.nextInt(100000)};
            row = row * 100000 + all[r.nextInt(all.length)];
        }
        return row;
    }

    void anyCall() {
        int s = stream(), a = input(), b = input(), n, k, what;
        if (m.now.e.sound()) soundCalls++;
        switch (r.nextInt(24)) {
            case 0: n = pick(0, 255); if (r.nextInt(3) == 0) same("write(" + n + ")", x.write(n), m.write(n)); break;
            case 1: same("fault()", x.fault(), m.fault()); break;
            case 2: what = pick(0, 9); same("about(" + what + ")", x.about(what), m.about(what)); break;
            case 3: what = pick(0, 4); same("stream(" + s + ", " + what + ")", x.stream(s, what), m.stream(s, what)); break;
            case 4: n = pick(0, 2); same("figure(" + s + ", " + n + ")", x.figure(s, n), m.figure(s, n)); break;
            case 5: n = pick(0, 2); same("clock(" + s + ", " + n + ")", x.clock(s, n), m.clock(s, n)); break;
            case 6: case 7: case 8: same("tick(" + a + ", " + b + ")", x.tick(a, b), m.tick(a, b)); values(); break;
            case 9: if (r.nextInt(3) == 0) same("afresh()", x.afresh(), m.afresh()); break;
            case 10: tellAny(); break;
            case 11: same("undo()", x.undo(), m.undo()); values(); break;
            case 12: n = pick(1, 40); same("later(" + s + ", " + n + ", " + a + ", " + b + ")", x.later(s, n, a, b), m.later(s, n, a, b)); break;
            case 13: n = pick(0, r.nextInt(4) == 0 ? 99 : 12); same("first(" + s + ", " + n + ", " + a + ", " + b + ")", x.first(s, n, a, b), m.first(s, n, a, b)); break;
            case 14: what = pick(0, 1); same("round(" + a + ", " + b + ", " + what + ")", x.round(a, b, what), m.round(a, b, what)); break;
            case 15: case 16: n = pick(1, 3); long row = row(Math.max(1, Math.min(4, n))); same("judge(" + n + ", " + row + ")", x.judge(n, row), m.judge(n, row)); break;
            case 17: seeAny(s); break;
            case 18: if (r.nextInt(3) == 0) same("unsee()", x.unsee(), m.unsee()); break;
            case 19: what = pick(0, 1); same("inputs(" + what + ")", x.inputs(what), m.inputs(what)); break;
            case 20: oddsAny(s); break;
            case 21: long to = r.nextLong(); if (r.nextInt(3) == 0) same("seed(" + to + ")", x.seed(to), m.seed(to)); break;
            case 22: n = pick(1, 30); same("runs(" + n + ")", x.runs(n), m.runs(n)); break;
            default: k = pick(0, 1); if (r.nextBoolean()) same("keep(" + k + ")", x.keep(k), m.keep(k)); else { same("again(" + k + ")", x.again(k), m.again(k)); values(); }
        }
    }

    void values() {
        same("about(5)", x.about(5), m.about(5));
        same("about(6)", x.about(6), m.about(6));
        for (int s = 0; s < m.n(); s++) same("stream(" + s + ", 4)", x.stream(s, 4), m.stream(s, 4));
    }

    void tellAny() {
        int s = stream(), k = pick(0, 11);
        int[] f = new int[3];
        int tries = r.nextInt(4) == 0 ? 1 : 20;
        for (int i = 0; i < tries; i++) {
            k = pick(0, 11);
            for (int j = 0; j < 3; j++) f[j] = k >= 0 && k < 12 && j >= SHAPES[k].length() ? r.nextInt(20) == 0 ? 1 : 0 : stream();
            if (k >= 0 && k < 12 && s >= 0 && s < m.n() && f[0] < m.n() && f[1] < m.n() && f[2] < m.n() && f[0] >= 0 && f[1] >= 0 && f[2] >= 0
                && m.now.e.with(s, k, Arrays.copyOf(f, SHAPES[k].length())).sound()) break;
        }
        same("tell(" + s + ", " + k + ", " + f[0] + ", " + f[1] + ", " + f[2] + ")", x.tell(s, k, f[0], f[1], f[2]), m.tell(s, k, f[0], f[1], f[2]));
        for (int w = 1; w < 5; w++) same("about(" + w + ")", x.about(w), m.about(w));
    }

    void seeAny(int s) {
        int t = pick(1, 12), v = r.nextBoolean() ? pick(0, 3) : pick(0, 99), was = pick(0, 1);
        int to = r.nextInt(4) == 0 ? pick(0, 7) : s;
        if (r.nextInt(2) == 0 && m.now.e.sound() && t >= 1 && t <= 12 && to >= 0 && to < m.n()) {
            int real = m.now.fresh().many(t, r.nextInt(10), r.nextInt(10)).value(to);
            if (real >= 0) { v = real; was = 1; }
        }
        same("see(" + t + ", " + to + ", " + v + ", " + was + ")", x.see(t, to, v, was), m.see(t, to, v, was));
        same("inputs(0)", x.inputs(0), m.inputs(0));
        same("inputs(1)", x.inputs(1), m.inputs(1));
    }

    void oddsAny(int s) {
        int v = pick(0, 6), n = pick(1, 6), c = pick(0, 10);
        boolean up = r.nextBoolean();
        same("odds(" + s + ", " + v + ", " + n + ", " + c + ", " + up + ")", x.odds(s, v, n, c, up), m.odds(s, v, n, c, up));
    }

    void oneObject() {
        x = new ClockedFlows();
        m = new Model();
        log.clear();
        calls = 0;
        if (r.nextInt(10) > 0) writeProgram();
        while (calls < 400 && !wrong) {
            if (r.nextInt(100) == 0 && calls < 300) writeProgram();
            anyCall();
        }
    }

    public static void main(String[] args) {
        int objects = args.length > 0 ? Integer.parseInt(args[0]) : 1500;
        long from = args.length > 1 ? Long.parseLong(args[1]) : 20261117L;
        ModelTest test = new ModelTest(from);
        for (int i = 0; i < objects && !test.wrong; i++) test.oneObject();
        System.out.println(test.wrong ? "an answer is not the model's" : "all answers are the model's; " + test.soundCalls + " calls on sound programs");
        if (test.wrong) System.exit(1);
    }
}
