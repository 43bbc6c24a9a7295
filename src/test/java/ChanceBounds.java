import java.math.BigInteger;

/** Boundary cases of promises 18 to 25: SEEN, INPUTS, ODDS, THE SEED, RUNS and SLOTS. */
public final class ChanceBounds extends Check {
    static final BigInteger TIMES = new BigInteger("6364136223846793005");
    static final BigInteger PLUS = new BigInteger("1442695040888963407");

    static void see() {
        sentence("Promise 18", "BAD: t, stream (0 .. 7), v (0 .. 99), was (0, 1)", () -> {
            ClockedFlows x = new ClockedFlows();
            int[][] within = {{1, 12}, {0, 7}, {0, 99}, {0, 1}};
            for (int i = 0; i < 4; i++) {
                for (int wrong : new int[] {within[i][0] - 1, within[i][1] + 1, MIN, MAX}) {
                    int[] f = {1, 0, 0, 0};
                    f[i] = wrong;
                    due("see by " + wrong + " at place " + i, x.see(f[0], f[1], f[2], f[3]), BAD);
                }
            }
            due("about(8)", x.about(8), 0);
            due("the least", x.see(1, 0, 0, 0), 1);
            due("the most", x.see(12, 7, 99, 1), 2);
        });
        sentence("Promise 18", "FULL: 6", () -> {
            ClockedFlows x = new ClockedFlows();
            for (int i = 1; i <= 6; i++) {
                due("the same once more", x.see(1, 0, 0, 0), i);
            }
            due("the seventh", x.see(1, 0, 0, 0), FULL);
            due("the seventh, wrong", x.see(0, 0, 0, 0), BAD);
            due("about(8)", x.about(8), 6);
            x.unsee();
            due("behind unsee", x.see(1, 0, 0, 0), 1);
        });
        sentence("Promise 18, SEEN", "6 such at most, none at first", () -> {
            due("about(8)", new ClockedFlows().about(8), 0);
            ClockedFlows x = of("S1I0");
            for (int i = 0; i < 5; i++) {
                x.see(1, 0, i, 0);
            }
            x.see(12, 0, 5, 1);
            due("the sixth counts", x.inputs(1), 50);
            x.unsee();
            for (int i = 0; i < 6; i++) {
                x.see(1, 0, i, 0);
            }
            x.see(1, 0, 6, 0);
            due("the seventh does not", x.inputs(1), 60);
        });
        sentence("Promise 19", "Nothing is SEEN: how much there was", () -> {
            ClockedFlows x = of("S1I0");
            due("none", x.unsee(), 0);
            for (int i = 0; i < 8; i++) {
                x.see(1, 0, 5, 1);
            }
            due("six", x.unsee(), 6);
            due("none", x.unsee(), 0);
            due("about(8)", x.about(8), 0);
            due("inputs(0)", x.inputs(0), 100);
        });
    }

    static void inputs() {
        sentence("Promise 20", "BAD; LATE: THE PROGRAM is not SOUND", () -> {
            for (int what : new int[] {-1, 2, MIN, MAX}) {
                due("inputs(" + what + ")", of(MERGED).inputs(what), BAD);
                due("not sound: inputs(" + what + ")", of(RAW).inputs(what), BAD);
            }
            for (String text : NOT_SOUND) {
                due("inputs(0) of " + text, of(text).inputs(0), LATE);
                due("inputs(1) of " + text, of(text).inputs(1), LATE);
            }
        });
        sentence("Promise 20", "how many (100 there are)", () -> {
            due("no stream", new ClockedFlows().inputs(0), 100);
            due("nothing seen", of(MERGED).inputs(0), 100);
            due("the first", of(MERGED).inputs(1), 0);
        });
        sentence("Promise 20", "the first (10 times the one and the other); NONE", () -> {
            ClockedFlows x = of("S2I0I1");
            x.see(1, 1, 9, 1);
            due("of ten", x.inputs(0), 10);
            due("the first of ten", x.inputs(1), 9);
            x.see(1, 0, 9, 1);
            due("one", x.inputs(0), 1);
            due("the last of all", x.inputs(1), 99);
            x.see(1, 0, 8, 1);
            due("none", x.inputs(0), 0);
            due("no first", x.inputs(1), NONE);
        });
        sentence("Promise 20, SEEN", "by the same two unknown INPUTS (0 .. 9 each)", () -> {
            ClockedFlows x = of("S2I0I1");
            x.see(1, 0, 10, 1);
            due("ten", x.inputs(0), 0);
            x.unsee();
            x.see(1, 0, 9, 1);
            due("nine", x.inputs(0), 10);
            x.see(2, 0, 8, 1);
            due("not the same", x.inputs(0), 0);
        });
        sentence("Promise 20, SEEN", "at TICK t (1 .. 12)", () -> {
            ClockedFlows x = ticked(COUNTER, 0, 0, 0, 0, 0, 0);
            for (int t = 1; t <= 12; t++) {
                x.unsee();
                x.see(t, 2, t, 1);
                due("tick " + t, x.inputs(0), 100);
                x.see(t, 2, t + 3, 1);
                due("not from here on", x.inputs(0), 0);
            }
            due("nothing is changed", x.about(5), 3);
        });
        sentence("Promise 20, SEEN", "a STREAM was THERE with v (1), or was not (0)", ChanceBounds::seenOrNot);
        sentence("Promise 20", "by THE PROGRAM as it is", () -> {
            ClockedFlows x = of("S2I0I1");
            x.see(1, 1, 3, 1);
            due("by input 1", x.inputs(1), 3);
            x.tell(1, 0, 0, 0, 0);
            due("told: by input 0", x.inputs(1), 30);
            x.undo();
            due("undone", x.inputs(1), 3);
            rewrite(x, "S1I1");
            x.program();
            due("no such stream", x.inputs(1), NONE);
        });
    }

    static void seenOrNot() {
        int[][] cases = {{0, 5, 10, 90}, {1, 0, 0, 100}, {2, 5, 10, 90}, {2, 0, 0, 100}, {3, 0, 10, 90}, {7, 0, 0, 100}};
        for (int[] c : cases) {
            ClockedFlows x = of("S4I0P0W00N00");
            x.see(1, c[0], c[1], 1);
            due("stream " + c[0] + " with " + c[1], x.inputs(0), c[2]);
            x.unsee();
            x.see(1, c[0], c[1], 0);
            due("stream " + c[0] + " not with " + c[1], x.inputs(0), c[3]);
        }
    }

    static void odds(String call, ClockedFlows x, int[] asked, int above, int below) {
        due(call + ", above", x.odds(asked[0], asked[1], asked[2], asked[3], true), above);
        due(call + ", below", x.odds(asked[0], asked[1], asked[2], asked[3], false), below);
    }

    static void odds() {
        String text = "S4I0W00N00I1";
        sentence("Promise 21", "UNKNOWN", () -> {
            for (int s : new int[] {-1, 4, 8, MIN, MAX}) {
                due("odds of " + s, of(text).odds(s, 0, 1, 0, true), UNKNOWN);
                due("odds of " + s + ", wrong", of(text).odds(s, 7, 7, 11, true), UNKNOWN);
                due("not sound: odds of " + s, of(RAW).odds(s, 0, 1, 0, true), UNKNOWN);
            }
            due("no stream", new ClockedFlows().odds(0, 0, 1, 0, true), UNKNOWN);
        });
        sentence("Promise 21", "BAD: v, n, x", () -> {
            int[][] within = {{0, 6}, {1, 6}, {0, 10}};
            for (int i = 0; i < 3; i++) {
                for (int wrong : new int[] {within[i][0] - 1, within[i][1] + 1, MIN, MAX}) {
                    int[] f = {0, 1, 0};
                    f[i] = wrong;
                    due("odds by " + wrong + " at place " + i, of(text).odds(0, f[0], f[1], f[2], true), BAD);
                    due("below", of(text).odds(0, f[0], f[1], f[2], false), BAD);
                    due("not sound", of(RAW).odds(0, f[0], f[1], f[2], true), BAD);
                }
            }
        });
        sentence("Promise 21", "LATE: THE PROGRAM is not SOUND", () -> {
            for (String not : NOT_SOUND) {
                due("odds of " + not, of(not).odds(0, 0, 1, 0, true), LATE);
                due("below", of(not).odds(0, 6, 6, 10, false), LATE);
            }
        });
        sentence("Promise 21, ODDS", "x tenths (0 .. 10)", () -> {
            odds("never", of(text), new int[] {1, 1, 6, 0}, 0, 1);
            odds("always", of(text), new int[] {1, 6, 6, 10}, 1, 1);
            odds("never the other", of(text), new int[] {2, 1, 6, 10}, 0, 1);
            odds("always the other", of(text), new int[] {2, 6, 6, 0}, 1, 1);
        });
        sentence("Promise 21, ODDS", "a STREAM is THERE v times (0 .. 6) or more", () -> {
            odds("no time", of(text), new int[] {1, 0, 6, 0}, 1, 1);
            odds("all times", of(text), new int[] {1, 6, 6, 5}, 1, 64);
            odds("one time or more", of(text), new int[] {1, 1, 6, 5}, 63, 64);
            odds("three times or more of six", of(text), new int[] {1, 3, 6, 5}, 21, 32);
            odds("more times than ticks", of(text), new int[] {0, 6, 5, 5}, 0, 1);
            odds("there with nothing", of("S2I0P0"), new int[] {1, 1, 1, 5}, 1, 1);
        });
        oddsTicks(text);
    }

    static void oddsTicks(String text) {
        sentence("Promise 21, ODDS", "in each of n TICKS (1 .. 6) to come", () -> {
            odds("one tick", of(text), new int[] {1, 1, 1, 3}, 3, 10);
            odds("two ticks", of(text), new int[] {1, 1, 2, 3}, 51, 100);
            odds("two of two", of(text), new int[] {1, 2, 2, 3}, 9, 100);
            odds("six ticks", of(text), new int[] {1, 1, 6, 1}, 468559, 1000000);
            ClockedFlows x = of("S3I0F00W01");
            odds("what was ahead, at first", x, new int[] {2, 1, 1, 5}, 0, 1);
            x.tick(1, 0);
            odds("what was ahead, from here on", x, new int[] {2, 1, 1, 5}, 1, 1);
            odds("what was ahead, two ticks", x, new int[] {2, 2, 2, 3}, 3, 10);
            odds("on one another", of("S4I0F00W01W10"), new int[] {2, 1, 2, 3}, 3, 10);
        });
        sentence("Promise 21, ODDS", "else 0, by itself, INPUT 1 is 0", () -> {
            odds("input 1", of("S2I1W00"), new int[] {1, 1, 6, 10}, 0, 1);
            odds("not more than 1", of("S4K1I0<01W12"), new int[] {3, 1, 6, 10}, 0, 1);
        });
        sentence("Promise 21, FRACTIONS", "told above (upper = true), below, in least terms", () -> {
            odds("a half", of(text), new int[] {1, 1, 1, 5}, 1, 2);
            odds("four fifths", of(text), new int[] {1, 1, 1, 8}, 4, 5);
            odds("no chance", of(text), new int[] {1, 1, 1, 0}, 0, 1);
            odds("for sure", of(text), new int[] {0, 1, 1, 7}, 1, 1);
            odds("the least above, the most below", of(text), new int[] {1, 6, 6, 1}, 1, 1000000);
            odds("the most above", of(text), new int[] {2, 6, 6, 1}, 531441, 1000000);
        });
    }

    static void seed() {
        sentence("Promise 22", "THE SEED is v: what it was", () -> {
            ClockedFlows x = new ClockedFlows();
            due("0 at first", x.seed(Long.MIN_VALUE), 0);
            due("the least", x.seed(Long.MAX_VALUE), Long.MIN_VALUE);
            due("the most", x.seed(-1), Long.MAX_VALUE);
            due("less than 0", x.seed(0), -1);
        });
    }

    /** What RUNS draw, reckoned in whole numbers that do not wrap. */
    static BigInteger drawn(BigInteger seed) {
        return seed.multiply(TIMES).add(PLUS).mod(BigInteger.ONE.shiftLeft(64));
    }

    static void runs() {
        sentence("Promise 23", "BAD: m; LATE: THE PROGRAM is not SOUND", () -> {
            for (int m : new int[] {0, 31, -1, MIN, MAX}) {
                due("runs(" + m + ")", of(COUNTER).runs(m), BAD);
                due("not sound: runs(" + m + ")", of(RAW).runs(m), BAD);
            }
            for (String text : NOT_SOUND) {
                ClockedFlows x = of(text);
                due("runs(1) of " + text, x.runs(1), LATE);
                due("THE SEED stays", x.seed(0), 0);
            }
        });
        sentence("Promise 23, RUNS", "m times (1 .. 30)", () -> {
            due("once", of(COUNTER).runs(1), 3 + 0 + 1 + 1);
            due("30 times", of(COUNTER).runs(30), 90 + 435 + 30 + 465);
        });
        sentence("Promise 23, RUNS", "64 bits, wrapping", () -> {
            long[] seeds = {0, 1, -1, 77, Long.MIN_VALUE, Long.MAX_VALUE, 1L << 33, (1L << 33) - 1, -(1L << 33)};
            for (long from : seeds) {
                BigInteger x = BigInteger.valueOf(from).mod(BigInteger.ONE.shiftLeft(64));
                ClockedFlows ones = of("S1I0");
                ClockedFlows others = of("S1I1");
                ones.seed(from);
                others.seed(from);
                for (int i = 0; i < 8; i++) {
                    x = drawn(x);
                    long upper = x.shiftRight(33).longValueExact();
                    due("input 0 from " + from, ones.runs(1), 1 + upper % 10);
                    due("input 1 from " + from, others.runs(1), 1 + upper / 16 % 10);
                    due("THE SEED from " + from, ones.seed(x.longValue()), x.longValue());
                }
            }
        });
        sentence("Promise 23, RUNS", "what is THERE, not NIL, all added up, and 1 for each that is THERE", () -> {
            due("no stream", new ClockedFlows().runs(30), 0);
            due("0 counts 1", of("S1K0").runs(30), 30);
            due("all eight", of("S8" + "K9".repeat(8)).runs(30), 30 * 80);
            due("nothing counts 1", of("S2K5P0").runs(1), 5 + 2);
            due("what is not there does not", of("S3K5N00W00").runs(1), 5 + 5 + 2);
        });
        sentence("Promise 23, RUNS", "Nothing changes but THE SEED", () -> {
            ClockedFlows x = ticked(COUNTER, 0, 0);
            due("from here on", x.runs(2), 6 + 1 + 1 + 2 + 2 + 1 + 3);
            due("THE TICK", x.about(5), 1);
            values("values", x, 0, 1, 1);
            due("once more from here on", x.runs(2), 6 + 1 + 1 + 2 + 2 + 1 + 3);
            due("THE SEED has changed", x.seed(0) == 0, false);
            due("no doing", x.undo(), 0);
        });
    }

    static void slots() {
        sentence("Promise 24", "UNKNOWN", () -> {
            for (int slot : new int[] {-1, 2, MIN, MAX}) {
                due("keep(" + slot + ")", of(COUNTER).keep(slot), UNKNOWN);
            }
        });
        sentence("Promise 24", "They are kept: THE TICK", () -> {
            ClockedFlows x = of(COUNTER);
            due("at first", x.keep(0), 0);
            tick(x, 5);
            due("behind five", x.keep(1), 5);
            due("doings stay", x.about(7), 5);
            due("no doing", x.undo(), 4);
            due("the other stays", x.again(0), 0);
            due("the one", x.again(1), 5);
            tick(x, 1);
            due("the one again", x.keep(1), 6);
            due("is the later", x.again(1), 6);
            due("no stream", new ClockedFlows().keep(1), 0);
            for (String text : NOT_SOUND) {
                due("keep(0) of " + text, of(text).keep(0), 0);
            }
        });
        sentence("Promise 25", "UNKNOWN; LATE: none were kept", () -> {
            for (int slot : new int[] {-1, 2, MIN, MAX}) {
                due("again(" + slot + ")", of(COUNTER).again(slot), UNKNOWN);
            }
            ClockedFlows x = of(COUNTER);
            due("again(0)", x.again(0), LATE);
            due("again(1)", x.again(1), LATE);
            x.keep(1);
            due("again(0)", x.again(0), LATE);
            due("again(1)", x.again(1), 0);
            x.keep(0);
            due("again(0)", x.again(0), 0);
        });
        sentence("Promise 25", "They are as they were kept: THE TICK", ChanceBounds::again);
        sentence("Promise 25, SLOTS", "keep EQUATIONS, what is kept of them, values, THE TICK", () -> {
            ClockedFlows x = of("S1I0");
            x.keep(0);
            x.see(1, 0, 5, 1);
            x.seed(77);
            x.write('S');
            x.again(0);
            due("SEEN is not kept", x.about(8), 1);
            due("THE TEXT is not kept", x.about(9), 5);
            due("THE SEED is not kept", x.seed(0), 77);
        });
        sentence("Promise 25, SLOTS", "no DOINGS when one goes on", () -> {
            ClockedFlows x = ticked(COUNTER, 0, 0);
            x.keep(0);
            tick(x, 20);
            x.again(0);
            due("about(7)", x.about(7), 0);
            due("undo()", x.undo(), LATE);
            tick(x, 1);
            due("and then one", x.undo(), 0);
            due("THE TICK", x.about(5), 1);
        });
    }

    static void again() {
        ClockedFlows x = ticked("S4I0F50P0A10", 7, 0, 8, 0);
        x.keep(0);
        x.tick(9, 0);
        x.tell(0, 2, 0, 0, 0);
        due("keep(1)", x.keep(1), 0);
        for (int times = 0; times < 2; times++) {
            due("again(0)", x.again(0), 2);
            due("SOUND", x.about(4), 1);
            due("THE TICK", x.about(5), 2);
            values("values", x, 8, 7, 7, 8);
            x.tick(3, 0);
            values("what is kept of them", x, 3, 8, 8, 3);
            due("again(1)", x.again(1), 0);
            due("not SOUND", x.about(4), 0);
            due("THE KNOT", x.about(2), 9);
            due("a tick", x.tick(0, 0), LATE);
            values("no values", x, NONE, NONE, NONE, NONE);
        }
        ClockedFlows empty = new ClockedFlows();
        empty.tick(0, 0);
        due("no stream", empty.keep(0), 1);
        empty.tick(0, 0);
        due("no stream, again", empty.again(0), 1);
    }

    public static void main(String[] args) {
        see();
        inputs();
        odds();
        seed();
        runs();
        slots();
        end();
    }
}
