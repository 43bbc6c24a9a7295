/** Boundary cases of promises 14 to 17: IN n TICKS, FIRST, ROUND and JUDGED. */
public final class AheadBounds extends Check {
    /** Counts up to what input 0 is, and stays there. */
    static final String UP_AND_STAY = "S6F05I0K1+02<01?430";
    /** Counts up to what input 0 is, and begins again. */
    static final String UP_AND_BACK = "S7F05I0K1+02<01?436K0";

    static void later() {
        sentence("Promise 14", "IN n TICKS (1 .. 40)", () -> {
            ClockedFlows x = of(COUNTER);
            for (int n = 1; n <= 40; n++) {
                due("later(2, " + n + ", 0, 0)", x.later(2, n, 0, 0), n);
            }
            tick(x, 7);
            due("from here on, 1", x.later(2, 1, 0, 0), 8);
            due("from here on, 40", x.later(2, 40, 0, 0), 47);
        });
        sentence("Promise 14", "by the same two INPUTS", () -> {
            ClockedFlows x = of("S4I0I1F00F01");
            for (int s = 0; s < 4; s++) {
                due("stream " + s, x.later(s, 40, 98, 99), 98 + s % 2);
            }
            due("adds up past 99", of("S3I0F02+01").later(2, 40, 99, 0), 60);
        });
        sentence("Promise 14", "NIL; NONE", () -> {
            ClockedFlows x = of("S4I0P0W00P2");
            due("nothing yet", x.later(1, 1, 5, 0), NIL);
            due("something", x.later(1, 2, 5, 0), 5);
            due("not there", x.later(2, 40, 0, 0), NONE);
            due("not there, nothing yet", x.later(3, 40, 0, 0), NONE);
            due("nothing yet on a clock", x.later(3, 1, 5, 0), NIL);
        });
        sentence("Promise 14", "UNKNOWN", () -> {
            for (int s : new int[] {-1, 3, 8, MIN, MAX}) {
                due("later(" + s + ", 1, 0, 0)", of(COUNTER).later(s, 1, 0, 0), UNKNOWN);
                due("later(" + s + ", 0, 100, 100)", of(COUNTER).later(s, 0, 100, 100), UNKNOWN);
                due("not sound: later(" + s + ", 1, 0, 0)", of(RAW).later(s, 1, 0, 0), UNKNOWN);
            }
            due("no stream", new ClockedFlows().later(0, 1, 0, 0), UNKNOWN);
        });
        sentence("Promise 14", "BAD: n, a, b", () -> {
            for (int n : new int[] {0, 41, -1, MIN, MAX}) {
                due("later(0, " + n + ", 0, 0)", of(COUNTER).later(0, n, 0, 0), BAD);
                due("not sound: later(0, " + n + ", 0, 0)", of(RAW).later(0, n, 0, 0), BAD);
            }
            for (int input : new int[] {-1, 100, MIN, MAX}) {
                due("later(0, 1, " + input + ", 0)", of(COUNTER).later(0, 1, input, 0), BAD);
                due("later(0, 1, 0, " + input + ")", of(COUNTER).later(0, 1, 0, input), BAD);
            }
        });
        sentence("Promise 14", "LATE: THE PROGRAM is not SOUND", () -> {
            for (String text : NOT_SOUND) {
                due("later(0, 1, 0, 0) of " + text, of(text).later(0, 1, 0, 0), LATE);
            }
        });
    }

    static void first() {
        sentence("Promise 15", "in how many TICKS (1 .. 40) by the same INPUTS a STREAM is THERE with it; NONE", () -> {
            ClockedFlows x = of(COUNTER);
            due("at once", x.first(2, 1, 0, 0), 1);
            due("the last", x.first(2, 40, 0, 0), 40);
            due("too late", x.first(2, 41, 0, 0), NONE);
            due("0 at once", x.first(0, 0, 0, 0), 1);
            due("0 never", x.first(2, 0, 0, 0), NONE);
            due("by input 0", of("S2I0I1").first(0, 99, 99, 0), 1);
            due("by input 1", of("S2I0I1").first(1, 99, 0, 99), 1);
            due("of two the first", of("S2I0F50").first(1, 5, 5, 0), 1);
            due("of many the first", of(UP_AND_BACK).first(0, 1, 2, 0), 2);
        });
        sentence("Promise 15", "a STREAM is THERE", () -> {
            due("not there", of("S2I0W00").first(1, 0, 0, 0), NONE);
            due("nothing is no value", of("S2I0P0").first(1, 0, 0, 0), 2);
        });
        sentence("Promise 15", "in how many TICKS", () -> {
            ClockedFlows x = ticked(COUNTER, 0, 0);
            due("not the last tick", x.first(2, 1, 0, 0), NONE);
            due("the next", x.first(2, 2, 0, 0), 1);
            due("the 40th", x.first(2, 41, 0, 0), 40);
        });
        sentence("Promise 15", "UNKNOWN", () -> {
            for (int s : new int[] {-1, 3, 8, MIN, MAX}) {
                due("first(" + s + ", 0, 0, 0)", of(COUNTER).first(s, 0, 0, 0), UNKNOWN);
                due("first(" + s + ", 100, 100, 100)", of(COUNTER).first(s, 100, 100, 100), UNKNOWN);
                due("not sound: first(" + s + ", 0, 0, 0)", of(RAW).first(s, 0, 0, 0), UNKNOWN);
            }
            due("no stream", new ClockedFlows().first(0, 0, 0, 0), UNKNOWN);
        });
        sentence("Promise 15", "BAD: v (0 .. 99), a, b", () -> {
            for (int wrong : new int[] {-1, 100, NIL, NONE, MIN, MAX}) {
                due("first(0, " + wrong + ", 0, 0)", of("S2I0P0").first(0, wrong, 0, 0), BAD);
                due("first(0, 0, " + wrong + ", 0)", of("S2I0P0").first(0, 0, wrong, 0), BAD);
                due("first(0, 0, 0, " + wrong + ")", of("S2I0P0").first(0, 0, 0, wrong), BAD);
                due("not sound: first(0, " + wrong + ", 0, 0)", of(RAW).first(0, wrong, 0, 0), BAD);
            }
        });
        sentence("Promise 15", "LATE: THE PROGRAM is not SOUND", () -> {
            for (String text : NOT_SOUND) {
                due("first(0, 0, 0, 0) of " + text, of(text).first(0, 0, 0, 0), LATE);
            }
        });
    }

    static void rounds(String call, ClockedFlows x, int a, int l, int t) {
        due(call + ": round(" + a + ", 0, 0)", x.round(a, 0, 0), l);
        due(call + ": round(" + a + ", 0, 1)", x.round(a, 0, 1), t);
    }

    static void round() {
        sentence("Promise 16", "the least l (1 .. 40) for which there is a t", () -> {
            rounds("nothing is kept", of("S1I0"), 99, 1, 0);
            rounds("no stream", new ClockedFlows(), 0, 1, 0);
            rounds("always the same", of("S1F90"), 0, 1, 0);
            rounds("two by turns", of("S2F11F20"), 0, 2, 0);
            for (int top = 1; top < 40; top++) {
                rounds("up and back", of(UP_AND_BACK), top, top + 1, 0);
            }
        });
        sentence("Promise 16", "t and l together 40 at most", () -> {
            rounds("0 and 40", of(UP_AND_BACK), 39, 40, 0);
            rounds("0 and 41", of(UP_AND_BACK), 40, NONE, NONE);
            rounds("39 and 1", of(UP_AND_STAY), 39, 1, 39);
            rounds("40 and 1", of(UP_AND_STAY), 40, NONE, NONE);
            rounds("1 and 39", of("S8F05I0K1+02<01?436K0F96"), 38, 39, 1);
            rounds("1 and 40", of("S8F05I0K1+02<01?436K0F96"), 39, NONE, NONE);
        });
        sentence("Promise 16", "the least such t for it", () -> {
            for (int top = 0; top < 40; top++) {
                rounds("up and stay", of(UP_AND_STAY), top, 1, top);
            }
        });
        sentence("Promise 16", "behind t TICKS to come", () -> {
            ClockedFlows x = of(UP_AND_STAY);
            tick(x, 1);
            x.tick(9, 0);
            rounds("from here on", x, 9, 1, 8);
            rounds("from here on, too far", x, 42, NONE, NONE);
            rounds("from here on, not too far", x, 40, 1, 39);
        });
        sentence("Promise 16", "of F and P the value that it has when it is THERE next, of A whether it was THERE", () -> {
            rounds("F, the same", of("S2I0F50"), 5, 1, 0);
            rounds("F, another", of("S2I0F50"), 6, 1, 1);
            rounds("P, nothing at first", of("S2I0P0"), 0, 1, 1);
            rounds("P, behind a tick of the same", ticked("S2I0P0", 4, 0), 4, 1, 0);
            rounds("P, behind a tick of another", ticked("S2I0P0", 4, 0), 5, 1, 1);
            rounds("A", of("S2I0A00"), 0, 1, 1);
            rounds("A, behind a tick", ticked("S2I0A00", 7, 0), 9, 1, 0);
            rounds("A that is not there", of("S3I0W00A11"), 0, 1, 0);
            rounds("A that is there", of("S3I0W00A11"), 1, 1, 1);
            rounds("F that is not there", of("S3I0W00F51"), 0, 1, 0);
        });
        sentence("Promise 16", "BAD: a, b, what", () -> {
            for (int wrong : new int[] {-1, 100, MIN, MAX}) {
                due("round(" + wrong + ", 0, 0)", of(COUNTER).round(wrong, 0, 0), BAD);
                due("round(0, " + wrong + ", 0)", of(COUNTER).round(0, wrong, 0), BAD);
                due("not sound: round(0, " + wrong + ", 0)", of(RAW).round(0, wrong, 0), BAD);
            }
            for (int wrong : new int[] {-1, 2, MIN, MAX}) {
                due("round(0, 0, " + wrong + ")", of(COUNTER).round(0, 0, wrong), BAD);
                due("not sound: round(0, 0, " + wrong + ")", of(RAW).round(0, 0, wrong), BAD);
            }
            due("round(99, 99, 1)", of("S1I0").round(99, 99, 1), 0);
        });
        sentence("Promise 16", "LATE: THE PROGRAM is not SOUND", () -> {
            for (String text : NOT_SOUND) {
                due("round(0, 0, 0) of " + text, of(text).round(0, 0, 0), LATE);
                due("round(0, 0, 1) of " + text, of(text).round(0, 0, 1), LATE);
            }
        });
    }

    /** Judges doings that are told as five figures each. */
    static void judged(String call, ClockedFlows x, int want, String... doings) {
        String row = String.join("", doings);
        due(call + ": judge of " + String.join(" ", doings), x.judge(doings.length, Long.parseLong(row)), want);
    }

    static void judge() {
        sentence("Promise 17", "BAD: n, row (0 or more, 5 n figures at most)", () -> {
            ClockedFlows x = of(MERGED);
            for (int n : new int[] {0, 4, -1, MIN, MAX}) {
                due("judge(" + n + ", 20000)", x.judge(n, 20000), BAD);
            }
            for (int n = 1; n <= 3; n++) {
                long over = n == 1 ? 100000L : n == 2 ? 10000000000L : 1000000000000000L;
                for (long row : new long[] {over, -1, Long.MIN_VALUE, Long.MAX_VALUE}) {
                    due("judge(" + n + ", " + row + ")", x.judge(n, row), BAD);
                }
                due("judge(" + n + ", " + (over - 1) + ")", x.judge(n, over - 1), 0);
                due("judge(" + n + ", 0)", x.judge(n, 0), 0);
                due("not sound", of(RAW).judge(n, over), BAD);
            }
        });
        sentence("Promise 17", "LATE: THE PROGRAM is not SOUND", () -> {
            for (String text : NOT_SOUND) {
                due("judge(1, 20000) of " + text, of(text).judge(1, 20000), LATE);
                due("judge(1, 0) of " + text, of(text).judge(1, 0), LATE);
            }
        });
        sentence("Promise 17", "n doings (1 .. 3), told as five figures each", () -> {
            ClockedFlows x = of(COUNTER);
            judged("one", x, NONE, "10000");
            judged("two", x, NONE, "10000", "32001");
            judged("three", x, NONE, "10000", "10000", "32002");
            judged("the first one first", x, 0, "32001", "10000");
            judged("all at the fore", x, 0, "00000", "00000", "10000");
        });
        sentence("Promise 17", "the place of the first that can not be (or is not so); NONE: none", () -> {
            ClockedFlows x = of(COUNTER);
            judged("the first", x, 0, "70000", "20000", "20000");
            judged("the second", x, 1, "20000", "70000", "70000");
            judged("the third", x, 2, "20000", "20000", "30000");
            judged("none", x, NONE, "20000", "20000", "20000");
            for (int kind : new int[] {0, 7, 8, 9}) {
                judged("no such doing", x, 0, kind + "0000");
            }
        });
        judgeKinds();
    }

    static void judgeKinds() {
        sentence("Promise 17", "1, two INPUTS of two figures: A TICK", () -> {
            ClockedFlows x = of("S2I0I1");
            judged("the least", x, NONE, "10000", "30000", "31000");
            judged("the most", x, NONE, "19999", "30099", "31099");
            judged("two figures each", x, NONE, "10990", "30009", "31090");
        });
        sentence("Promise 17", "2, 0, 0, 00: AFRESH", () -> {
            ClockedFlows x = ticked(COUNTER, 0, 0, 0, 0);
            judged("begins again", x, NONE, "20000", "10000", "32001");
            judged("no tick any more", x, 1, "20000", "32002");
            for (String wrong : new String[] {"21000", "20100", "20010", "20001"}) {
                judged("not 0", x, 0, wrong);
            }
        });
        sentence("Promise 17", "3, a STREAM, 0, two figures: it is THERE with that value, at the last TICK", () -> {
            ClockedFlows x = ticked("S4I0P0W00K9", 0, 0);
            judged("there", x, NONE, "30000", "33009");
            judged("another value", x, 0, "30001");
            judged("nothing yet", x, 0, "31000");
            judged("not there", x, 0, "32000");
            judged("not 0", x, 0, "33109");
            judged("no such stream", x, 0, "34000");
            judged("no such stream", x, 0, "39000");
            judged("the last tick", x, 1, "10700", "30000");
            judged("no tick", of("S1K0"), 0, "30000");
        });
        sentence("Promise 17", "4, a STREAM, 0, 00: it is not THERE", () -> {
            ClockedFlows x = ticked("S4I0P0W00K9", 0, 0);
            judged("not there", x, NONE, "42000");
            judged("there", x, 0, "40000");
            judged("there, with nothing", x, 0, "41000");
            judged("not 0", x, 0, "42100");
            judged("not 0", x, 0, "42010");
            judged("not 0", x, 0, "42001");
            judged("no such stream", x, 0, "44000");
            judged("no tick", of("S1K0"), NONE, "40000");
        });
        sentence("Promise 17", "5, a STREAM, d, 00: its CLOCK is d CLOCKS over BASE", () -> {
            ClockedFlows x = of(ClockBounds.DEEPEST);
            judged("the least", x, NONE, "50000", "51100", "57700");
            judged("too few", x, 0, "57600");
            judged("too many", x, 0, "50100");
            judged("not 0", x, 0, "50001");
            judged("not 0", x, 0, "50010");
            judged("no such stream", x, 0, "58000");
            judged("no such stream", of(MERGED), 0, "55000");
        });
        sentence("Promise 17", "6, two STREAMS, 00: their CLOCKS are LIKE", () -> {
            ClockedFlows x = of("S6I0W00N00W00W11K0");
            judged("itself", x, NONE, "60000", "61100", "64400");
            judged("made alike", x, NONE, "61300", "60500");
            judged("by c, by not c", x, 0, "61200");
            judged("one on the other", x, 0, "61400");
            judged("on c, and on BASE", x, 0, "60100");
            judged("as many, on others", of("S4I0I1W00W11"), 0, "62300");
            judged("not 0", x, 0, "60010");
            judged("not 0", x, 0, "60001");
            judged("no such stream", x, 0, "66600");
            judged("no such stream", x, 0, "60600");
            judged("no such stream", x, 0, "66000");
        });
    }

    public static void main(String[] args) {
        later();
        first();
        round();
        judge();
        end();
    }
}
