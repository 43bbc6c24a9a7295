/** Boundary cases of promises 10 to 13, and of TICKS, values and DOINGS in "Terms". */
public final class DoingBounds extends Check {
    /** What is added up so far; on the ticks at which the input is not 0 the same, slower. */
    static final String ADDED = "S6I0F02+10W00F05+43";

    static void tick() {
        sentence("Promise 10", "BAD: a, b (0 .. 99)", () -> {
            for (int wrong : new int[] {-1, 100, MIN, MAX}) {
                due("tick(" + wrong + ", 0)", of(MERGED).tick(wrong, 0), BAD);
                due("tick(0, " + wrong + ")", of(MERGED).tick(0, wrong), BAD);
                due("no stream: tick(0, " + wrong + ")", new ClockedFlows().tick(0, wrong), BAD);
            }
            ClockedFlows x = of(MERGED);
            due("tick(0, 99)", x.tick(0, 99), 4);
            values("tick(0, 99)", x, 0, 99, NONE, 99, 99);
            due("tick(99, 0)", x.tick(99, 0), 4);
            values("tick(99, 0)", x, 99, 0, 0, NONE, 0);
        });
        sentence("Promise 10", "LATE: THE PROGRAM is not SOUND", () -> {
            for (String text : NOT_SOUND) {
                ClockedFlows x = of(text);
                due("tick(0, 0) of " + text, x.tick(0, 0), LATE);
                due("THE TICK", x.about(5), 0);
                due("tick(0, 100) of " + text, x.tick(0, 100), BAD);
            }
        });
        sentence("Promise 10", "how many STREAMS are THERE", () -> {
            due("no stream", new ClockedFlows().tick(0, 0), 0);
            due("one", of("S1K0").tick(0, 0), 1);
            due("one of eight", of(ClockBounds.DEEPEST).tick(0, 0), 1);
            due("all of eight", of("S8" + "K0".repeat(8)).tick(0, 0), 8);
            due("with nothing is there too", of("S2I0P0").tick(0, 0), 2);
        });
        sentence("Promise 10, TICK", "THE TICK is one more", () -> {
            ClockedFlows x = of(COUNTER);
            for (int t = 1; t <= 100; t++) {
                x.tick(0, 0);
                due("about(5)", x.about(5), t);
            }
        });
    }

    static void sums() {
        sentence("Promise 10, KIND 2", "the sum, less 100, if it is 100 or more", () -> {
            int[][] sums = {{0, 0, 0}, {99, 0, 99}, {50, 49, 99}, {50, 50, 0}, {99, 1, 0}, {99, 99, 98}};
            for (int[] sum : sums) {
                values(sum[0] + " + " + sum[1], ticked("S3I0I1+01", sum[0], sum[1]), sum);
            }
        });
        sentence("Promise 10, KIND 3", "what the one is more than the other (less: 100 more)", () -> {
            int[][] rests = {{0, 0, 0}, {99, 99, 0}, {99, 0, 99}, {0, 1, 99}, {0, 99, 1}, {50, 49, 1}, {49, 50, 99}};
            for (int[] rest : rests) {
                values(rest[0] + " - " + rest[1], ticked("S3I0I1-01", rest[0], rest[1]), rest);
            }
        });
        sentence("Promise 10, KIND 4", "1, if the one is less, else 0", () -> {
            int[][] all = {{0, 0, 0}, {0, 1, 1}, {1, 0, 0}, {99, 99, 0}, {98, 99, 1}, {99, 0, 0}, {0, 99, 1}};
            for (int[] less : all) {
                values(less[0] + " < " + less[1], ticked("S3I0I1<01", less[0], less[1]), less);
            }
        });
        sentence("Promise 10, KIND 5", "b, if a is not 0, else c", () -> {
            for (int a : new int[] {0, 1, 99}) {
                values("by " + a, ticked("S4I0K3K4?012", a, 0), a, 3, 4, a == 0 ? 4 : 3);
            }
        });
        sentence("Promise 10, KIND 0", "INPUT i (0, 1)", () -> {
            values("the least and the most", ticked("S2I0I1", 0, 99), 0, 99);
            values("the most and the least", ticked("S2I0I1", 99, 0), 99, 0);
        });
        sentence("Promise 10, KIND 1", "v always", () -> {
            values("at first", ticked("S2K0K9", 1, 1), 0, 9);
            values("then", ticked("S2K0K9", 1, 1, 2, 2), 0, 9);
        });
    }

    static void follows() {
        sentence("Promise 10, KIND 6", "v at first, then what a was ahead", () -> {
            ClockedFlows x = ticked("S3I0F90F00", 99, 0);
            values("at first", x, 99, 9, 0);
            x.tick(0, 0);
            values("then", x, 0, 99, 99);
            x.tick(5, 0);
            values("and then", x, 5, 0, 0);
            ClockedFlows turned = ticked("S2F11F20", 0, 0);
            values("each the other, at first", turned, 1, 2);
            turned.tick(0, 0);
            values("each the other, then", turned, 2, 1);
            turned.tick(0, 0);
            values("each the other, and then", turned, 1, 2);
        });
        sentence("Promise 10, KIND 7", "NIL at first, then what a was ahead", () -> {
            ClockedFlows x = ticked("S2I0P0", 99, 0);
            values("at first", x, 99, NIL);
            x.tick(0, 0);
            values("then", x, 0, 99);
            x.tick(5, 0);
            values("and then", x, 5, 0);
        });
        sentence("Promise 10, KIND 8", "a at first, then b", () -> {
            ClockedFlows x = ticked("S3I0I1A01", 4, 5);
            values("at first", x, 4, 5, 4);
            x.tick(6, 7);
            values("then", x, 6, 7, 7);
            x.tick(8, 9);
            values("and then", x, 8, 9, 9);
        });
        sentence("Promise 10, TICK", "\"at first\", \"ahead\" counts TICKS at which it is THERE", () -> {
            ClockedFlows x = of("S7I0I1W10F72P2K8A52");
            int[][] inputs = {{0, 1}, {3, 2}, {0, 3}, {0, 4}, {99, 5}, {1, 6}};
            int[][] want = {{NONE, NONE, NONE, NONE}, {2, 7, NIL, 8}, {NONE, NONE, NONE, NONE},
                {NONE, NONE, NONE, NONE}, {5, 2, 2, 5}, {6, 5, 5, 6}};
            for (int t = 0; t < inputs.length; t++) {
                x.tick(inputs[t][0], inputs[t][1]);
                for (int i = 0; i < 4; i++) {
                    int s = new int[] {2, 3, 4, 6}[i];
                    due("tick " + (t + 1) + ": stream(" + s + ", 4)", x.stream(s, 4), want[t][i]);
                }
            }
        });
    }

    static void clocks() {
        sentence("Promise 10, KIND 9", "a, when c is not 0", () -> {
            for (int c : new int[] {0, 1, 99}) {
                values("by " + c, ticked("S3I0I1W10", c, 42), c, 42, c == 0 ? NONE : 42);
            }
        });
        sentence("Promise 10, KIND 10", "a, when c is 0", () -> {
            for (int c : new int[] {0, 1, 99}) {
                values("by " + c, ticked("S3I0I1N10", c, 42), c, 42, c == 0 ? 42 : NONE);
            }
        });
        sentence("Promise 10, KIND 11", "a, when c is not 0, else b", () -> {
            for (int c : new int[] {0, 1, 99}) {
                ClockedFlows x = ticked("S4I0K7K8M012", c, 0);
                values("by " + c, x, c, c == 0 ? NONE : 7, c == 0 ? 8 : NONE, c == 0 ? 8 : 7);
            }
        });
        sentence("Promise 10, TICK", "the STREAM c on which it is is THERE (by the CLOCK it is on)", () -> {
            String text = "S4I0N00N11W11";
            values("c is there, and is 0", ticked(text, 0, 0), 0, 0, 0, NONE);
            values("c is not there", ticked(text, 1, 0), 1, NONE, NONE, NONE);
            String two = "S5I0W00K7K8M123";
            values("c is there, and is not 0", ticked(two, 5, 0), 5, 5, 7, NONE, 7);
            values("c is not there: neither by c nor by not c", ticked(two, 0, 0), 0, NONE, NONE, NONE, NONE);
            due("one is there", ticked(ClockBounds.DEEPEST, 0, 0).about(6), 1);
            due("two are there", ticked(ClockBounds.DEEPEST, 1, 0).about(6), 3);
        });
        sentence("Promise 10, TICK", "its CLOCK is BASE", () -> {
            ClockedFlows x = of("S3K0I0+01");
            due("tick(0, 0)", x.tick(0, 0), 3);
            due("tick(99, 0)", x.tick(99, 0), 3);
        });
        sentence("Promise 10, TICK", "A value of which any part is NIL is NIL", () -> {
            for (String parts : new String[] {"+01", "+10", "-01", "-10", "<01", "<10", "?100", "?010"}) {
                due("the value of " + parts, ticked("S3I0P0" + parts, 1, 0).stream(2, 4), NIL);
            }
            due("a sample", ticked("S3I0P0W10", 1, 0).stream(2, 4), NIL);
        });
        sentence("Promise 10, TICK", "A, ?, M do not look at what they do not take", () -> {
            values("A", ticked("S3I0P0A01", 5, 0), 5, NIL, 5);
            values("? by 0", ticked("S3I0P0?010", 0, 0), 0, NIL, 0);
            values("? by 1", ticked("S3I0P0?001", 1, 0), 1, NIL, 1);
            values("M", ticked("S4I0W00N00M012", 6, 0), 6, 6, NONE, 6);
        });
        sentence("Promise 10, TICK", "What is not THERE has no value", () -> {
            ClockedFlows x = ticked("S3I0W00F71", 4, 0, 0, 0);
            values("not there any more", x, 0, NONE, NONE);
        });
    }

    static void afresh() {
        sentence("Promise 11", "THE TICK as it was", () -> {
            ClockedFlows x = of(COUNTER);
            due("no tick", x.afresh(), 0);
            tick(x, 3);
            due("three", x.afresh(), 3);
            due("none again", x.afresh(), 0);
            due("no stream", new ClockedFlows().afresh(), 0);
            for (String text : NOT_SOUND) {
                due("of " + text, of(text).afresh(), 0);
            }
        });
        sentence("Promise 11, AFRESH", "THE TICK 0, all as at first", () -> {
            ClockedFlows x = ticked("S4I0F50P0A10", 7, 0, 8, 0);
            values("ahead", x, 8, 7, 7, 8);
            x.afresh();
            due("THE TICK", x.about(5), 0);
            due("none is there", x.about(6), 0);
            values("no tick", x, NONE, NONE, NONE, NONE);
            x.tick(9, 0);
            values("at first", x, 9, 5, NIL, 5);
            due("about(5)", x.about(5), 1);
        });
        sentence("Promise 11, DOINGS", "DOINGS (TICKS, AFRESH", () -> {
            ClockedFlows x = of(COUNTER);
            x.tick(0, 0);
            due("a tick", x.about(7), 1);
            x.afresh();
            due("afresh", x.about(7), 2);
            x.tell(1, 1, 2, 0, 0);
            due("told", x.about(7), 3);
        });
    }

    static void tell() {
        sentence("Promise 12", "UNKNOWN: stream", () -> {
            for (int s : new int[] {-1, 3, 8, MIN, MAX}) {
                due("tell(" + s + ", 1, 0, 0, 0)", of(COUNTER).tell(s, 1, 0, 0, 0), UNKNOWN);
                due("tell(" + s + ", 12, 0, 0, 0)", of(COUNTER).tell(s, 12, 0, 0, 0), UNKNOWN);
            }
            due("no stream", new ClockedFlows().tell(0, 1, 0, 0, 0), UNKNOWN);
            due("the last of eight", of("S8" + "K0".repeat(8)).tell(7, 1, 5, 0, 0), 1);
            due("behind the last of eight", of("S8" + "K0".repeat(8)).tell(8, 1, 5, 0, 0), UNKNOWN);
        });
        sentence("Promise 12", "BAD: kind", () -> {
            for (int kind : new int[] {-1, 12, MIN, MAX}) {
                due("tell(0, " + kind + ", 0, 0, 0)", of(COUNTER).tell(0, kind, 0, 0, 0), BAD);
            }
            for (int kind = 0; kind < 12; kind++) {
                ClockedFlows x = of("S3K1K1K1");
                due("kind " + kind + " is told", x.tell(0, kind, 0, 0, 0) >= 0, true);
                due("kind " + kind, x.stream(0, 0), kind);
            }
        });
        sentence("Promise 12", "figures (as many as it has; others 0)", DoingBounds::tellFigures);
        sentence("Promise 12", "TOLD: an EQUATION by KIND and figures", () -> {
            ClockedFlows x = of("S4I0W00N00K0");
            due("M by c, a, b", x.tell(3, 11, 0, 1, 2), 1);
            due("M by c, b, a", x.tell(3, 11, 0, 2, 1), 0);
            due("F by v, a", x.tell(3, 6, 9, 0, 0), 1);
            due("figure(3, 0)", x.figure(3, 0), 9);
            due("figure(3, 1)", x.figure(3, 1), 0);
            due("fewer than ahead", x.figure(3, 2), UNKNOWN);
            due("the others stay", x.figure(1, 0) + x.stream(1, 0), 9);
        });
        sentence("Promise 12", "1 if THE PROGRAM is SOUND then, 0", () -> {
            ClockedFlows x = of("S2K1K2");
            due("a knot", x.tell(1, 2, 1, 1, 0), 0);
            due("mended", x.tell(1, 2, 0, 0, 0), 1);
            due("a clash", x.tell(1, 9, 1, 1, 0), 0);
            due("mended", x.tell(1, 9, 0, 0, 0), 1);
            due("one that is raw", x.tell(1, 7, 1, 0, 0), 0);
            due("mended", x.tell(1, 7, 0, 0, 0), 1);
        });
        sentence("Promise 12, TOLD", "and AFRESH", () -> {
            ClockedFlows x = ticked("S3I0F50P0", 7, 0, 8, 0);
            x.tell(0, 0, 1, 0, 0);
            due("THE TICK", x.about(5), 0);
            values("no tick", x, NONE, NONE, NONE);
            x.tick(1, 2);
            values("at first", x, 2, 5, NIL);
        });
    }

    static void tellFigures() {
        String[] most = {"1", "9", "22", "22", "22", "222", "92", "2", "22", "22", "22", "222"};
        for (int kind = 0; kind < 12; kind++) {
            int[] top = new int[3];
            for (int i = 0; i < most[kind].length(); i++) {
                top[i] = most[kind].charAt(i) - '0';
            }
            ClockedFlows x = of("S3K1K1K1");
            due("kind " + kind + " by the most", x.tell(0, kind, top[0], top[1], top[2]) >= 0, true);
            for (int i = 0; i < most[kind].length(); i++) {
                due("figure(0, " + i + ") of kind " + kind, x.figure(0, i), top[i]);
            }
            for (int i = 0; i < 3; i++) {
                for (int wrong : new int[] {top[i] + 1, -1, 10, MIN, MAX}) {
                    int[] f = new int[3];
                    f[i] = wrong;
                    due("kind " + kind + ", figure " + i + " of " + wrong, x.tell(0, kind, f[0], f[1], f[2]), BAD);
                }
            }
        }
    }

    static void undo() {
        sentence("Promise 13", "LATE: there is none", () -> {
            due("no stream", new ClockedFlows().undo(), LATE);
            due("a program is no doing", of(COUNTER).undo(), LATE);
            ClockedFlows x = ticked(COUNTER, 0, 0);
            due("the one", x.undo(), 0);
            due("none", x.undo(), LATE);
            due("still none", x.undo(), LATE);
        });
        sentence("Promise 13, DOINGS", "14 at most; when it is full, the first one is forgotten", () -> {
            for (int times : new int[] {13, 14, 15, 16, 28, 29, 60}) {
                ClockedFlows x = of(COUNTER);
                tick(x, times);
                int left = Math.min(times, 14);
                due("about(7) behind " + times, x.about(7), left);
                for (int i = left - 1; i >= 0; i--) {
                    due("undo()", x.undo(), i);
                    due("THE TICK", x.about(5), times - left + i);
                    due("the value", x.stream(2, 4), times - left + i == 0 ? NONE : times - left + i);
                }
                due("no more", x.undo(), LATE);
                due("THE TICK", x.about(5), times - left);
            }
        });
        sentence("Promise 13", "how many are left", () -> {
            ClockedFlows x = of(COUNTER);
            for (int i = 0; i < 30; i++) {
                tick(x, 2);
                due("undo()", x.undo(), Math.min(i + 1, 13));
                due("THE TICK", x.about(5), i + 1);
            }
        });
        sentence("Promise 13", "The last DOING is undone", () -> {
            ClockedFlows x = ticked(ADDED, 5, 0, 0, 0, 7, 0);
            values("behind three ticks", x, 7, 5, 12, 7, 5, 12);
            x.afresh();
            due("afresh undone", x.undo(), 3);
            values("afresh undone", x, 7, 5, 12, 7, 5, 12);
            x.tell(2, 3, 1, 0, 0);
            due("told undone", x.undo(), 3);
            due("its kind", x.stream(2, 0), 2);
            values("told undone", x, 7, 5, 12, 7, 5, 12);
            x.tell(2, 2, 2, 2, 0);
            due("not sound", x.tick(0, 0), LATE);
            x.undo();
            x.undo();
            values("a tick undone", x, 0, 5, 5, NONE, NONE, NONE);
            x.tick(9, 0);
            values("and gone on from", x, 9, 5, 14, 9, 5, 14);
            x.undo();
            x.undo();
            x.undo();
            values("all undone", x, NONE, NONE, NONE, NONE, NONE, NONE);
            x.tick(1, 0);
            values("at first", x, 1, 0, 1, 1, 0, 1);
        });
    }

    public static void main(String[] args) {
        tick();
        sums();
        follows();
        clocks();
        afresh();
        tell();
        undo();
        end();
    }
}
