/** Boundary cases of promises 6 to 9, and of CLOCKS, ORDERS, LEVELS and SOUND in "Terms". */
public final class ClockBounds extends Check {
    /** Stream 0 an input, each other one on the clock of the one ahead of it. */
    static final String DEEPEST = "S8I0W00N11W22N33W44N55W66";

    static void clash(String text, int want) {
        due("THE CLASH of " + text, of(text).about(1), want);
    }

    static void knot(String text, int want) {
        due("THE CLASH of " + text, of(text).about(1), NONE);
        due("THE KNOT of " + text, of(text).about(2), want);
    }

    static void raw(String text, int want) {
        due("THE CLASH of " + text, of(text).about(1), NONE);
        due("RAW of " + text, of(text).about(3), want);
    }

    static void about() {
        sentence("Promise 6", "BAD", () -> {
            for (int what : new int[] {-1, 10, MIN, MAX}) {
                due("about(" + what + ")", of(COUNTER).about(what), BAD);
                due("about(" + what + ")", new ClockedFlows().about(what), BAD);
            }
        });
        sentence("Promise 6", "STREAMS (what = 0)", () -> {
            for (int n = 1; n <= 8; n++) {
                due("about(0) of " + n, of("S" + n + "K0".repeat(n)).about(0), n);
            }
        });
        sentence("Promise 6", "THE CLASH (1; NONE)", () -> {
            due("no stream", new ClockedFlows().about(1), NONE);
            due("none", of(COUNTER).about(1), NONE);
            due("the third", of(CLASHING).about(1), 2);
        });
        sentence("Promise 6", "THE KNOT (2: bits; a CLASH: 0)", () -> {
            due("no stream", new ClockedFlows().about(2), 0);
            due("none", of(COUNTER).about(2), 0);
            due("two", of(KNOTTED).about(2), 3);
            due("a clash", of("S4I0W00+01+33").about(2), 0);
            ClockedFlows x = of("S3+00I0K0");
            due("a knot ahead of a clash", x.about(2), 1);
            x.tell(1, 9, 1, 1, 0);
            due("a clash behind a knot", x.about(2), 0);
        });
        sentence("Promise 6", "RAW (3; NONE; a CLASH: NONE)", () -> {
            due("no stream", new ClockedFlows().about(3), NONE);
            due("none", of(COUNTER).about(3), NONE);
            due("the third", of(RAW).about(3), 2);
            due("a clash", of("S5I0P0P1W00+03").about(3), NONE);
            ClockedFlows x = of("S3P1P0K0");
            due("one ahead of a clash", x.about(3), 0);
            x.tell(2, 9, 2, 2, 0);
            due("a clash behind it", x.about(3), NONE);
        });
        aboutCounts();
    }

    static void aboutCounts() {
        sentence("Promise 6", "1 if THE PROGRAM is SOUND (4; no STREAM: 1)", () -> {
            due("no stream", new ClockedFlows().about(4), 1);
            due("sound", of(COUNTER).about(4), 1);
            for (String text : NOT_SOUND) {
                due("about(4) of " + text, of(text).about(4), 0);
            }
        });
        sentence("Promise 6", "THE TICK (5)", () -> {
            ClockedFlows x = of(COUNTER);
            for (int t = 0; t < 60; t++) {
                due("about(5)", x.about(5), t);
                x.tick(0, 0);
            }
        });
        sentence("Promise 6", "STREAMS that are THERE at the last TICK (6: bits; none yet: 0)", () -> {
            due("no stream", new ClockedFlows().about(6), 0);
            due("none yet", of(DEEPEST).about(6), 0);
            due("all eight", ticked("S8" + "K0".repeat(8), 0, 0).about(6), 255);
            due("one", ticked(DEEPEST, 0, 0).about(6), 1);
            due("the last tick, not the one ahead", ticked(DEEPEST, 3, 0, 0, 0).about(6), 1);
        });
        sentence("Promise 6", "DOINGS (7), SEEN (8), letters of THE TEXT (9)", () -> {
            ClockedFlows x = new ClockedFlows();
            for (int i = 0; i < 42; i++) {
                due("about(7)", x.about(7), Math.min(i, 14));
                due("about(8)", x.about(8), Math.min(i, 6));
                due("about(9)", x.about(9), Math.min(i, 40));
                x.afresh();
                x.see(1, 0, 0, 0);
                x.write(i);
            }
        });
    }

    static void clashes() {
        sentence("Promise 6, THE CLASH", "INPUT: BASE", () -> {
            clash("S4M123K0I0K1", 2);
            clash("S4M123K0K1I1", 3);
            clash("S4M123I0K0K1", NONE);
        });
        sentence("Promise 6, THE CLASH", "KINDS 2 .. 8: its CLOCK is that of all its STREAMS", () -> {
            for (String parts : new String[] {"+01", "+10", "-01", "-10", "<01", "<10", "A01", "A10", "?011", "?101", "?110"}) {
                clash("S3I0W00" + parts, 2);
            }
            for (String own : new String[] {"+11", "-11", "<11", "?111", "F11", "P1", "A11"}) {
                clash("S4I0W00" + own + "+02", 3);
                clash("S4I0W00" + own + "+12", NONE);
            }
            clash("S3I0W00F10", NONE);
        });
        sentence("Promise 6, THE CLASH", "W, N: CLOCKS of a and c are LIKE", () -> {
            clash("S3I0W00W10", 2);
            clash("S3I0W00W01", 2);
            clash("S3I0W00N10", 2);
            clash("S3I0W00N01", 2);
            clash("S3I0W00W11", NONE);
        });
        sentence("Promise 6, THE CLASH", "its own is that on c, by c (W), by not c (N)", () -> {
            clash("S4I0W00N00+12", 3);
            clash("S4I0W00W00+12", NONE);
            clash("S4I0N00N00+12", NONE);
            clash("S5I0I1W00W01+23", 4);
            clash("S5I0I1W01W11+23", NONE);
            clash("S4I0W00W11+12", 3);
            clash("S5I0W00W11W11+23", NONE);
        });
        sentence("Promise 6, THE CLASH", "M: its CLOCK is that of c; that of a is it on c, by c, that of b it on c, by not c", () -> {
            clash("S4I0W00N00M012", NONE);
            clash("S4I0W00N00M021", 3);
            clash("S4I0W00W00M012", 3);
            clash("S4I0N00N00M012", 3);
            clash("S5I0W00N00M012+03", NONE);
            clash("S5I0W00N00M012+13", 4);
            clash("S5I0I1W01N00M023", 4);
            clash("S5I0I1W00N01M023", 4);
            clash("S3I0I1M001", 2);
        });
        firstClashes();
    }

    static void firstClashes() {
        sentence("Promise 6, THE CLASH", "the first EQUATION that asks what can not be together with what those ahead ask", () -> {
            clash("S5I0W00+01+10W10", 2);
            clash("S4+12W33I0K0", 2);
            clash("S4+12I0W33K0", 2);
            clash("S4K0I0W11+02", NONE);
            clash("S5K0I0W11+02+01", 4);
        });
        sentence("Promise 6, THE CLASH", "each CLOCK has an end at BASE", () -> {
            clash("S1W00", 0);
            clash("S1N00", 0);
            clash("S1M000", 0);
            clash("S2W11W00", 1);
            clash("S2W11+01", 1);
            clash("S8W11W22W33W44W55W66W77W00", 7);
            clash("S8W11W22W33W44W55W66W77I0", NONE);
            clash("S8W11W22W33W44W55W66W77+00", 7);
            clash(DEEPEST, NONE);
        });
        sentence("Promise 9, CLOCKS", "What is not settled by all is BASE", () -> {
            ofEach("alone", of("S4K1P1+22F03"), 1, 0, 0, 0, 0);
            ClockedFlows x = of("S3K1W00W11");
            ofEach("over what is not settled", x, 1, 0, 1, 2);
            due("clock(1, 0)", x.clock(1, 0), 1);
            due("clock(2, 0)", x.clock(2, 0), 1);
            due("clock(2, 1)", x.clock(2, 1), 11);
            ofEach("settled from behind", of("S4K1+03K2W22"), 1, 1, 1, 0, 1);
        });
        sentence("Promise 7, CLOCKS", "With a CLASH there are no CLOCKS, ORDERS, LEVELS", () -> {
            ClockedFlows x = of("S4I0P0W00+02");
            for (int what = 1; what <= 3; what++) {
                ofEach("a clash", x, what, NONE, NONE, NONE, NONE);
            }
            due("clock(2, 0)", x.clock(2, 0), UNKNOWN);
            x.tell(3, 2, 0, 0, 0);
            ofEach("mended", x, 1, 0, 0, 1, 0);
            ofEach("mended", x, 2, 0, 1, 2, 3);
            ofEach("mended", x, 3, 0, 1, 0, 0);
            due("mended: clock(2, 0)", x.clock(2, 0), 1);
            x.undo();
            ofEach("and undone", x, 1, NONE, NONE, NONE, NONE);
        });
    }

    static void orders() {
        sentence("Promise 6, THE KNOT", "A STREAM WAITS for the STREAMS of its EQUATION", () -> {
            for (String self : new String[] {"+01", "+10", "-01", "-10", "<01", "<10", "?011", "?101", "?110", "A01", "A10"}) {
                knot("S2" + self + "K1", 1);
            }
            knot("S3M012K0K0", 7);
            knot("S4M123I0W01K0", 5);
            knot("S4M132I0N01K0", 5);
            knot("S2K1+11", 2);
            knot("S2I1+11", 2);
        });
        sentence("Promise 6, THE KNOT", "but for a in F and P", () -> {
            knot("S1F00", 0);
            knot("S1P0", 0);
            knot("S2F01F10", 0);
            knot("S2F01+00", 0);
            knot("S2P1+00", 0);
            knot("S2F10+11", 2);
        });
        sentence("Promise 6, THE KNOT", "and for those on which its CLOCK is", () -> {
            knot("S4M123+00K1K2", 15);
            knot("S4M123F00K1K2", 0);
            ofEach("clocks first", of("S3F01W22I0"), 2, 1, 2, 0);
            ofEach("clocks first", of("S4M312K1K2I0"), 2, 3, 1, 2, 0);
            ofEach("those below too", of("S5F01W22W33W44I0"), 2, 3, 4, 2, 1, 0);
        });
        sentence("Promise 7, ORDER", "the least of them has the next ORDER (0, 1, ..)", () -> {
            ofEach("all at once", of("S8" + "K0".repeat(8)), 2, 0, 1, 2, 3, 4, 5, 6, 7);
            ofEach("the least that can", of("S4+12K1K1K1"), 2, 2, 0, 1, 3);
            ofEach("from behind", of("S8+11+22+33+44+55+66+77K1"), 2, 7, 6, 5, 4, 3, 2, 1, 0);
        });
        sentence("Promise 6, THE KNOT", "STREAMS (bits) that have none at the end", () -> {
            knot("S8" + "+00".repeat(8), 255);
            knot("S8" + "K0".repeat(7) + "+77", 128);
            knot("S4K1+12+21+10", 14);
            knot("S4K1+12+21P1", 6);
        });
        sentence("Promise 7", "ORDER (2; NONE)", () -> {
            ofEach("in a knot, and beside it", of("S4K1+12+21P1"), 2, 0, NONE, NONE, 1);
            ofEach("one that waits for itself", of("S2F01+01"), 2, 0, NONE);
        });
    }

    static void levels() {
        sentence("Promise 7, LEVELS", "of P 1; of INPUT, K, F, A, M 0", () -> {
            ofEach("plain", of("S6I0K1P0F00A00P5"), 3, 0, 0, 1, 0, 0, 1);
            ofEach("over P", of("S5I0P0F01A11A01"), 3, 0, 1, 0, 0, 0);
            ofEach("a merge of P", of("S5I0P0W10N10M023"), 3, 0, 1, 1, 1, 0);
        });
        sentence("Promise 7, LEVELS", "of + - < ? 1, if any of its STREAMS has 1", () -> {
            for (String parts : new String[] {"+01", "+10", "-01", "-10", "<01", "<10", "?001", "?010", "?100"}) {
                due("level of " + parts, of("S3I0P0" + parts).stream(2, 3), 1);
                due("level of " + parts, of("S3I0F00" + parts).stream(2, 3), 0);
            }
        });
        sentence("Promise 7, LEVELS", "of W, N as of a", () -> {
            for (String kind : new String[] {"W", "N"}) {
                due("a of 1", of("S3I0P0" + kind + "10").stream(2, 3), 1);
                due("c of 1", of("S3I0P0" + kind + "01").stream(2, 3), 0);
            }
        });
        sentence("Promise 7, LEVELS", "0 for all that need not be 1 by this", () -> {
            ofEach("round", of("S2+10+01"), 3, 0, 0);
            ofEach("round, with P", of("S3+10+02P1"), 3, 1, 1, 1);
            ofEach("from behind", of("S8+11+22+33+44+55+66+77P0"), 3, 1, 1, 1, 1, 1, 1, 1, 1);
            ClockedFlows x = of("S2P1+00");
            ofEach("with P", x, 3, 1, 1);
            x.tell(0, 2, 1, 1, 0);
            ofEach("without P again", x, 3, 0, 0);
        });
    }

    static void raws() {
        sentence("Promise 6, RAW", "F, P or A with a of LEVEL 1", () -> {
            raw("S3I0P0F01", 2);
            raw("S3I0P0F10", NONE);
            raw("S3I0P0P1", 2);
            raw("S1P0", 0);
            raw("S3I0P0A10", 2);
            raw("S3I0P0A01", NONE);
        });
        sentence("Promise 6, RAW", "W or N with c of LEVEL 1", () -> {
            raw("S3I0P0W01", 2);
            raw("S3I0P0W10", NONE);
            raw("S3I0P0N01", 2);
            raw("S3I0P0N10", NONE);
        });
        sentence("Promise 6, RAW", "M with any STREAM of LEVEL 1", () -> {
            raw("S4I0W00N00M012", NONE);
            raw("S5I0P0W10N00M023", 4);
            raw("S5I0P0W00N10M023", 4);
            raw("S5M123P4K0K0I0", 0);
        });
        sentence("Promise 6, RAW", "RAW is the first EQUATION", () -> {
            raw("S5I0P0+01P2P1", 3);
            raw("S8P1P2P3P4P5P6P7I0", 0);
            raw("S6I0P0+01-01<01?011", NONE);
            raw("S2P0+11", 0);
        });
        sentence("Promise 6, SOUND", "if there is no CLASH, no KNOT, no RAW", () -> {
            due("none of them", of(MERGED).about(4), 1);
            due("a clash", of(CLASHING).about(4), 0);
            due("a knot", of("S1+00").about(4), 0);
            due("one that is raw", of("S1P0").about(4), 0);
        });
    }

    static void stream() {
        sentence("Promise 7", "UNKNOWN; BAD", () -> {
            ClockedFlows x = of(COUNTER);
            for (int s : new int[] {-1, 3, 8, MIN, MAX}) {
                for (int what = -1; what <= 5; what++) {
                    due("stream(" + s + ", " + what + ")", x.stream(s, what), UNKNOWN);
                }
            }
            for (int what : new int[] {-1, 5, MIN, MAX}) {
                due("stream(2, " + what + ")", x.stream(2, what), BAD);
            }
            due("the last of eight", of(DEEPEST).stream(7, 0), 9);
            due("behind the last of eight", of(DEEPEST).stream(8, 0), UNKNOWN);
        });
        sentence("Promise 7", "its KIND (what = 0)", () -> {
            ofEach("kinds", of("S8I0K0+00-00<00?000F00P0"), 0, 0, 1, 2, 3, 4, 5, 6, 7);
            ofEach("kinds", of("S4A00W00N00M000"), 0, 8, 9, 10, 11);
        });
        sentence("Promise 7", "how many CLOCKS over BASE its CLOCK is (1; a CLASH: NONE)", () -> {
            ofEach("each on the one ahead", of(DEEPEST), 1, 0, 1, 2, 3, 4, 5, 6, 7);
            ofEach("a clash", of(CLASHING), 1, NONE, NONE, NONE);
        });
        sentence("Promise 7", "LEVEL (3; a CLASH: NONE)", () -> {
            ofEach("levels", of("S2I0P0"), 3, 0, 1);
            ofEach("a clash", of(CLASHING), 3, NONE, NONE, NONE);
        });
        sentence("Promise 7", "its value at the last TICK (4; NIL; NONE: it is not THERE, or there was no TICK)", () -> {
            ClockedFlows x = of("S4I0P0W00P2");
            values("there was no tick", x, NONE, NONE, NONE, NONE);
            x.tick(0, 0);
            values("nothing yet, and not there", x, 0, NIL, NONE, NONE);
            x.tick(99, 0);
            values("nothing yet on a clock", x, 99, 0, 99, NIL);
            x.afresh();
            values("there was no tick", x, NONE, NONE, NONE, NONE);
        });
    }

    static void figure() {
        sentence("Promise 8", "Figure i (0 .. 2) of an EQUATION, as it is told", () -> {
            ClockedFlows x = of("S8I1K9F70M123?456A76P5W21");
            int[][] told = {{1}, {9}, {7, 0}, {1, 2, 3}, {4, 5, 6}, {7, 6}, {5}, {2, 1}};
            for (int s = 0; s < told.length; s++) {
                for (int i = 0; i < told[s].length; i++) {
                    due("figure(" + s + ", " + i + ")", x.figure(s, i), told[s][i]);
                }
            }
        });
        sentence("Promise 8", "UNKNOWN: stream, i (as many as it has)", () -> {
            String[] kinds = {"I0", "K0", "+00", "-00", "<00", "?000", "F00", "P0", "A00", "W00", "N00", "M000"};
            for (String kind : kinds) {
                ClockedFlows x = of("S1" + kind);
                int has = kind.length() - 1;
                due("the last of " + kind, x.figure(0, has - 1), 0);
                for (int i : new int[] {has, 3, -1, MIN, MAX}) {
                    due("figure(0, " + i + ") of " + kind, x.figure(0, i), UNKNOWN);
                }
                for (int s : new int[] {-1, 1, 8, MIN, MAX}) {
                    due("figure(" + s + ", 0)", x.figure(s, 0), UNKNOWN);
                }
            }
        });
    }

    static void clock() {
        sentence("Promise 9", "CLOCK d (0: on BASE, 1: on that, ..)", () -> {
            ClockedFlows x = of(DEEPEST);
            for (int s = 0; s < 8; s++) {
                for (int d = 0; d < s; d++) {
                    due("clock(" + s + ", " + d + ")", x.clock(s, d), 10 * d + (d % 2 == 0 ? 1 : 0));
                }
            }
        });
        sentence("Promise 9", "10 times the STREAM on which it is, and 1 (by it), 0 (by not it)", () -> {
            due("by stream 0", of("S2I0W00").clock(1, 0), 1);
            due("by not stream 0", of("S2I0N00").clock(1, 0), 0);
            due("by stream 7", of("S8W77K0K0K0K0K0K0I0").clock(0, 0), 71);
            due("by not stream 7", of("S8N77K0K0K0K0K0K0I0").clock(0, 0), 70);
        });
        sentence("Promise 9", "UNKNOWN: stream, d (less than how many there are; a CLASH: none)", () -> {
            ClockedFlows x = of(DEEPEST);
            for (int s = 0; s < 8; s++) {
                for (int d : new int[] {s, s + 1, -1, MIN, MAX}) {
                    due("clock(" + s + ", " + d + ")", x.clock(s, d), UNKNOWN);
                }
            }
            for (int s : new int[] {-1, 8, MIN, MAX}) {
                due("clock(" + s + ", 0)", x.clock(s, 0), UNKNOWN);
            }
            x.tell(0, 9, 0, 0, 0);
            for (int s = 0; s < 8; s++) {
                due("a clash: clock(" + s + ", 0)", x.clock(s, 0), UNKNOWN);
            }
        });
    }

    public static void main(String[] args) {
        about();
        clashes();
        orders();
        levels();
        raws();
        stream();
        figure();
        clock();
        end();
    }
}
