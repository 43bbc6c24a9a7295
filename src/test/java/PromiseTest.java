/** One method for each promise: ordinary calls, the edges that the document names, wrong calls. */
public final class PromiseTest extends Check {
    // What seed 0 draws, reckoned apart from the class: upper 31 bits 167951807, then 218396424.
    static final int FIRST_A = 7, FIRST_B = 7, SECOND_A = 4, SECOND_B = 6;
    static final long SECOND_SEED = 1876011003808476466L;

    static void newObject() {
        promise("Promise 1");
        ClockedFlows x = new ClockedFlows();
        int[] want = {0, NONE, 0, NONE, 1, 0, 0, 0, 0, 0};
        for (int what = 0; what < want.length; what++) {
            due("about(" + what + ")", x.about(what), want[what]);
        }
        due("seed", x.seed(1), 0);
        due("again", x.again(0), LATE);
        due("undo", x.undo(), LATE);
    }

    static void write() {
        promise("Promise 2");
        ClockedFlows x = new ClockedFlows();
        due("-1", x.write(-1), BAD);
        due("256", x.write(256), BAD);
        due("0", x.write(0), 1);
        due("255", x.write(255), 2);
        for (int i = 3; i <= 40; i++) {
            due("letter " + i, x.write('S'), i);
        }
        due("41st", x.write('S'), FULL);
        due("41st, bad", x.write(256), BAD);
        due("length", x.about(9), 40);
    }

    static void wipe() {
        promise("Promise 3");
        ClockedFlows x = of(COUNTER);
        due("wipe", x.wipe(), 10);
        due("wipe", x.wipe(), 0);
        due("length", x.about(9), 0);
        due("the program stays", x.about(0), 3);
    }

    static void fault(String text, int want) {
        due("fault of " + text, written(text).fault(), want);
    }

    static void fault() {
        promise("Promise 4");
        fault("", 0);
        fault("s", 0);
        fault("XS1K0", 0);
        fault("S", 1);
        fault("S0", 1);
        fault("S9", 1);
        fault("SS", 1);
        fault("S8", 2);
        fault("S1k", 2);
        fault("S1I", 3);
        fault("S1I2", 3);
        fault("S1I1", NONE);
        fault("S1I1 ", 4);
        fault("S1K9", NONE);
        fault("S1K:", 3);
        fault("S1K/", 3);
        fault("S1+00", NONE);
        fault("S1+01", 4);
        fault("S2-02", 4);
        fault("S1<1", 3);
        fault("S1?00", 5);
        fault("S1?001", 5);
        fault("S1F90", NONE);
        fault("S1F91", 4);
        fault("S1P0", NONE);
        fault("S1P1", 3);
        fault("S2A01", 5);
        fault("S1W00", NONE);
        fault("S1N00", NONE);
        fault("S1M000", NONE);
        fault("S1M00", 5);
        fault("S8" + "M777".repeat(8), NONE);
        fault("S8" + "M777".repeat(8) + "M", 34);
        fault("S8" + "M778".repeat(8), 5);
        fault("S1K0" + "K".repeat(36), 4);
        fault("S2K0" + (char) 233, 4);
    }

    static void program() {
        promise("Promise 5");
        ClockedFlows x = written("S1");
        due("half a text", x.program(), LATE);
        due("no stream yet", x.about(0), 0);
        rewrite(x, COUNTER);
        due("sound", x.program(), 1);
        x.tick(0, 0);
        x.tick(0, 0);
        x.keep(0);
        x.see(1, 0, 0, 1);
        x.seed(77);
        rewrite(x, "S1X");
        due("a fault", x.program(), LATE);
        due("ticks after a refusal", x.about(5), 2);
        due("streams after a refusal", x.about(0), 3);
        due("slot after a refusal", x.again(0), 2);
        rewrite(x, KNOTTED);
        due("not sound", x.program(), 0);
        due("afresh", x.about(5), 0);
        due("no doings", x.about(7), 0);
        due("nothing to undo", x.undo(), LATE);
        due("slots are gone", x.again(0), LATE);
        due("seen stays", x.about(8), 1);
        due("seed stays", x.seed(0), 77);
        due("text stays", x.about(9), KNOTTED.length());
        due("no value", x.stream(0, 4), NONE);
        due("clash", of(CLASHING).about(4), 0);
        due("raw", of(RAW).about(4), 0);
    }

    static void about() {
        promise("Promise 6");
        due("-1", new ClockedFlows().about(-1), BAD);
        due("10", new ClockedFlows().about(10), BAD);
        ClockedFlows x = ticked(MERGED, 0, 5, 3, 5);
        x.see(1, 1, 1, 1);
        int[] want = {5, NONE, 0, NONE, 1, 2, 1 + 2 + 4 + 16, 2, 1, MERGED.length()};
        for (int what = 0; what < want.length; what++) {
            due("about(" + what + ")", x.about(what), want[what]);
        }
        x.afresh();
        due("none there yet", x.about(6), 0);
        due("clash", of(CLASHING).about(1), 2);
        due("clash of a clock on itself", of("S1W00").about(1), 0);
        due("clash of a clock on itself by two", of("S4I0W32W31K1").about(1), 2);
        due("clash of two constants' uses", of("S4I0W00K1+23").about(1), NONE);
        due("clash with base", of("S5I0W00K1+12+02").about(1), 4);
        due("clash of by c and by not c", of("S4I0W00N00+12").about(1), 3);
        due("clash has no knot", of("S4I0W00+01+33").about(2), 0);
        due("clash has no raw", of("S5I0P0P1W00+03").about(3), NONE);
        due("knot", of(KNOTTED).about(2), 3);
        due("knot with those that wait for it", of("S4K1+12+21P3").about(2), 6);
        due("knot by clocks", of("S4M123+00K1K2").about(2), 15);
        due("no knot by what was ahead", of("S4M123F00K1K2").about(2), 0);
        due("raw", of(RAW).about(3), 2);
        due("raw of F", of("S3I0P0F01").about(3), 2);
        due("raw of A", of("S3I0P0A10").about(3), 2);
        due("not raw: A then", of("S3I0P0A01").about(3), NONE);
        due("raw of W", of("S3I0P0W01").about(3), 2);
        due("not raw: W of one", of("S3I0P0W10").about(3), NONE);
        due("raw of N", of("S3I0P0N01").about(3), 2);
        due("raw of M", of("S5I0P0W10N00M023").about(3), 4);
        due("raw of what is raw by a sum", of("S4I0P0+01F02").about(3), 3);
    }

    static void stream() {
        promise("Promise 7");
        ClockedFlows x = of(DEEP);
        due("stream -1", x.stream(-1, 0), UNKNOWN);
        due("stream 4", x.stream(4, 9), UNKNOWN);
        due("what -1", x.stream(0, -1), BAD);
        due("what 5", x.stream(0, 5), BAD);
        int[] kinds = {0, 9, 9, 10};
        for (int s = 0; s < 4; s++) {
            due("kind " + s, x.stream(s, 0), kinds[s]);
            due("depth " + s, x.stream(s, 1), s);
            due("order " + s, x.stream(s, 2), s);
            due("level " + s, x.stream(s, 3), 0);
            due("value " + s, x.stream(s, 4), NONE);
        }
        ClockedFlows every = of("S8K0+00-00<00?000F00P0A00");
        for (int s = 0; s < 8; s++) {
            due("kind " + s, every.stream(s, 0), s + 1);
        }
        due("kind M", of(MERGED).stream(4, 0), 11);
        ClockedFlows counter = of(COUNTER);
        due("order of F", counter.stream(0, 2), 0);
        due("order of the sum", counter.stream(2, 2), 2);
        ClockedFlows turned = of("S3+12I0K1");
        due("order of what waits", turned.stream(0, 2), 2);
        due("order of the least", turned.stream(1, 2), 0);
        ClockedFlows sampled = of("S6<34K1K2I0I1M021");
        int[] orders = {2, 3, 4, 0, 1, 5};
        for (int s = 0; s < orders.length; s++) {
            due("order by clocks " + s, sampled.stream(s, 2), orders[s]);
        }
        ClockedFlows lowered = of("S2P1+00");
        due("level before", lowered.stream(1, 3), 1);
        lowered.tell(0, 2, 1, 1, 0);
        due("level of what need not be 1", lowered.stream(1, 3), 0);
        ClockedFlows clashing = of(CLASHING);
        for (int what = 1; what < 5; what++) {
            due("clash, what " + what, clashing.stream(0, what), NONE);
        }
        ClockedFlows knotted = of("S4K1+12+21P0");
        due("order in a knot", knotted.stream(1, 2), NONE);
        due("order beside a knot", knotted.stream(3, 2), 1);
        due("depth in a knot", knotted.stream(1, 1), 0);
        due("level of P", knotted.stream(3, 3), 1);
        ClockedFlows raised = of("S5I0P0+01?020W30");
        int[] levels = {0, 1, 1, 1, 1};
        for (int s = 0; s < levels.length; s++) {
            due("level " + s, raised.stream(s, 3), levels[s]);
        }
    }

    static void figure() {
        promise("Promise 8");
        ClockedFlows x = of("S5I1K9F73M012P4");
        int[][] want = {{1}, {9}, {7, 3}, {0, 1, 2}, {4}};
        for (int s = 0; s < 5; s++) {
            for (int i = -1; i < 4; i++) {
                due("figure(" + s + ", " + i + ")", x.figure(s, i), i >= 0 && i < want[s].length ? want[s][i] : UNKNOWN);
            }
        }
        due("stream -1", x.figure(-1, 0), UNKNOWN);
        due("stream 5", x.figure(5, 0), UNKNOWN);
    }

    static void clock() {
        promise("Promise 9");
        ClockedFlows x = of(DEEP);
        due("0 over base", x.clock(3, 0), 1);
        due("1 over base", x.clock(3, 1), 11);
        due("2 over base", x.clock(3, 2), 20);
        due("no third", x.clock(3, 3), UNKNOWN);
        due("below", x.clock(3, -1), UNKNOWN);
        due("base has none", x.clock(0, 0), UNKNOWN);
        due("stream 4", x.clock(4, 0), UNKNOWN);
        due("stream -1", x.clock(-1, 0), UNKNOWN);
        due("clash", of(CLASHING).clock(1, 0), UNKNOWN);
        ClockedFlows merged = of("S4I0K1K2M012");
        due("a constant by c", merged.clock(1, 0), 1);
        due("a constant by not c", merged.clock(2, 0), 0);
        due("a constant alone is base", of("S1K1").stream(0, 1), 0);
        ClockedFlows later = of("S4K1W00W33I0");
        due("settled later", later.clock(2, 0), 31);
    }

    static void tick() {
        promise("Promise 10");
        ClockedFlows x = of(MERGED);
        due("100", x.tick(100, 0), BAD);
        due("-1", x.tick(0, -1), BAD);
        due("not sound", of(KNOTTED).tick(0, 0), LATE);
        due("bad is told first", of(KNOTTED).tick(0, 100), BAD);
        due("ticks", x.about(5), 0);
        due("c is 0", x.tick(0, 99), 4);
        values("c is 0", x, 0, 99, NONE, 99, 99);
        due("c is 99", x.tick(99, 7), 4);
        values("c is 99", x, 99, 7, 7, NONE, 7);
        values("sums", ticked("S4I0I1+01-01", 60, 40), 60, 40, 0, 20);
        values("sums", ticked("S4I0I1+01-01", 40, 59), 40, 59, 99, 81);
        values("less", ticked("S4I0I1<01<10", 5, 5), 5, 5, 0, 0);
        values("choice", ticked("S4I0K3K4?012", 0, 0), 0, 3, 4, 4);
        values("choice", ticked("S4I0K3K4?012", 8, 0), 8, 3, 4, 3);
        values("follows", ticked("S4I0F90P0A12", 5, 0), 5, 9, NIL, 9);
        values("follows", ticked("S4I0F90P0A12", 5, 0, 6, 0), 6, 5, 5, 5);
        values("nil parts", ticked("S5I0P0+01<10?010", 5, 0), 5, NIL, NIL, NIL, NIL);
        values("choice does not look", ticked("S3I0P0?010", 0, 0), 0, NIL, 0);
        values("choice by nil", ticked("S3I0P0?100", 3, 0), 3, NIL, NIL);
        ClockedFlows slow = of("S4I0W00F71P1");
        slow.tick(0, 0);
        values("not there", slow, 0, NONE, NONE, NONE);
        slow.tick(4, 0);
        values("at first", slow, 4, 4, 7, NIL);
        slow.tick(0, 0);
        values("between", slow, 0, NONE, NONE, NONE);
        slow.tick(5, 0);
        values("what was ahead", slow, 5, 5, 4, 4);
        values("on clocks on clocks", ticked(DEEP, 3, 0), 3, 3, 3, NONE);
        due("there, not by number alone", ticked("S3I0W00N11", 0, 0).about(6), 1);
    }

    static void afresh() {
        promise("Promise 11");
        ClockedFlows x = ticked(COUNTER, 0, 0, 0, 0, 0, 0);
        due("was", x.afresh(), 3);
        due("ticks", x.about(5), 0);
        due("doings", x.about(7), 4);
        values("none", x, NONE, NONE, NONE);
        x.tick(0, 0);
        values("as at first", x, 0, 1, 1);
        due("of what is not sound", of(KNOTTED).afresh(), 0);
    }

    static void tell() {
        promise("Promise 12");
        ClockedFlows x = ticked(COUNTER, 0, 0, 0, 0);
        due("stream -1", x.tell(-1, 99, 0, 0, 0), UNKNOWN);
        due("stream 3", x.tell(3, 1, 0, 0, 0), UNKNOWN);
        int[][] bad = {{-1, 0, 0, 0}, {12, 0, 0, 0}, {0, 2, 0, 0}, {0, -1, 0, 0}, {0, 0, 1, 0}, {1, 10, 0, 0}, {1, 0, 0, 1},
            {2, 0, 3, 0}, {2, 3, 0, 0}, {2, 0, 0, 1}, {5, 0, 0, 3}, {6, 10, 0, 0}, {6, 0, 3, 0}, {7, 3, 0, 0}, {7, 0, 1, 0},
            {8, 0, 0, -1}, {9, 0, 0, 1}, {11, 0, 1, 3}};
        for (int[] b : bad) {
            due("kind " + b[0] + " by " + b[1] + b[2] + b[3], x.tell(0, b[0], b[1], b[2], b[3]), BAD);
        }
        due("refused changes nothing", x.about(5), 2);
        due("no doing", x.about(7), 2);
        due("told", x.tell(1, 1, 9, 0, 0), 1);
        due("afresh", x.about(5), 0);
        due("a doing", x.about(7), 3);
        due("figure", x.figure(1, 0), 9);
        x.tick(0, 0);
        x.tick(0, 0);
        values("by nines", x, 9, 9, 18);
        due("a knot", x.tell(0, 2, 2, 2, 0), 0);
        due("knot", x.about(2), 5);
        due("undone", x.undo(), 5);
        values("as it was", x, 9, 9, 18);
        due("sound again", x.about(4), 1);
        due("no clash", x.tell(0, 6, 9, 2, 0), 1);
        due("figure 0 is v", x.figure(0, 0), 9);
        due("figure 1 is a", x.figure(0, 1), 2);
    }

    static void undo() {
        promise("Promise 13");
        ClockedFlows x = of(COUNTER);
        due("none", x.undo(), LATE);
        for (int i = 0; i < 20; i++) {
            x.tick(0, 0);
        }
        due("fourteen", x.about(7), 14);
        for (int left = 13; left >= 0; left--) {
            due("left", x.undo(), left);
            due("tick", x.about(5), 6 + left);
            due("value", x.stream(2, 4), 6 + left);
        }
        due("none", x.undo(), LATE);
        due("the tick stays", x.about(5), 6);
        x.tick(0, 0);
        values("memory undone", x, 6, 1, 7);
        x.afresh();
        due("afresh undone", x.undo(), 1);
        values("afresh undone", x, 6, 1, 7);
        x.tick(0, 0);
        values("memory undone", x, 7, 1, 8);
    }

    static void later() {
        promise("Promise 14");
        ClockedFlows x = ticked(COUNTER, 0, 0);
        due("1", x.later(2, 1, 0, 0), 2);
        due("40", x.later(2, 40, 99, 99), 41);
        due("nothing changes", x.about(5), 1);
        due("nothing changes", x.stream(2, 4), 1);
        due("nil", of("S2I0P0").later(1, 1, 0, 0), NIL);
        due("not nil", of("S2I0P0").later(1, 2, 4, 0), 4);
        due("none", of("S2I0W00").later(1, 3, 0, 0), NONE);
        due("unknown", x.later(3, 0, 0, 0), UNKNOWN);
        due("unknown", x.later(-1, 1, 0, 0), UNKNOWN);
        due("n 0", x.later(0, 0, 0, 0), BAD);
        due("n 41", x.later(0, 41, 0, 0), BAD);
        due("a", x.later(0, 1, 100, 0), BAD);
        due("b", x.later(0, 1, 0, -1), BAD);
        due("bad is told first", of(KNOTTED).later(0, 41, 0, 0), BAD);
        due("late", of(KNOTTED).later(0, 1, 0, 0), LATE);
    }

    static void first() {
        promise("Promise 15");
        ClockedFlows x = of(COUNTER);
        due("1", x.first(2, 1, 0, 0), 1);
        due("40", x.first(2, 40, 0, 0), 40);
        due("41", x.first(2, 41, 0, 0), NONE);
        x.tick(0, 0);
        due("from here on", x.first(2, 41, 0, 0), 40);
        due("not the past", x.first(2, 1, 0, 0), NONE);
        due("nothing changes", x.about(5), 1);
        due("not there", of("S2I0W00").first(1, 0, 0, 0), NONE);
        due("unknown", x.first(3, 100, 0, 0), UNKNOWN);
        due("v", x.first(0, 100, 0, 0), BAD);
        due("v", x.first(0, NIL, 0, 0), BAD);
        due("a", x.first(0, 0, -1, 0), BAD);
        due("b", x.first(0, 0, 0, 100), BAD);
        due("bad is told first", of(KNOTTED).first(0, -1, 0, 0), BAD);
        due("late", of(KNOTTED).first(0, 0, 0, 0), LATE);
    }

    static void round(String text, int a, int l, int t) {
        ClockedFlows x = of(text);
        due("round of " + text + " by " + a, x.round(a, 0, 0), l);
        due("its start of " + text + " by " + a, x.round(a, 0, 1), t);
    }

    static void round() {
        promise("Promise 16");
        round("S1I0", 5, 1, 0);
        round("S3F02K1-10", 0, 2, 0);
        round("S2I0F50", 5, 1, 0);
        round("S2I0F50", 6, 1, 1);
        round("S2I0P0", 0, 1, 1);
        round("S2I0A00", 0, 1, 1);
        round("S3I0W00A11", 0, 1, 0);
        round("S3I0W00A11", 1, 1, 1);
        round(COUNTER, 0, NONE, NONE);
        String upTo = "S7F05I0K1+02<01?436K0";
        round(upTo, 39, 40, 0);
        round(upTo, 40, NONE, NONE);
        round(upTo, 3, 4, 0);
        round("S8F05I0K1+02<01?436K0F96", 38, 39, 1);
        round("S8F05I0K1+02<01?436K0F96", 39, NONE, NONE);
        ClockedFlows x = ticked("S2I0P0", 4, 0);
        due("from here on", x.round(4, 0, 1), 0);
        due("nothing changes", x.about(5), 1);
        due("a", x.round(100, 0, 0), BAD);
        due("b", x.round(0, -1, 0), BAD);
        due("what", x.round(0, 0, 2), BAD);
        due("what", x.round(0, 0, -1), BAD);
        due("bad is told first", of(KNOTTED).round(0, 0, 2), BAD);
        due("late", of(KNOTTED).round(0, 0, 0), LATE);
    }

    static void judge() {
        promise("Promise 17");
        ClockedFlows x = of(MERGED);
        due("there", x.judge(3, 103053000332005L), NONE);
        due("not there", x.judge(2, 1030543000L), NONE);
        due("not not there", x.judge(2, 1030542000L), 1);
        due("another value", x.judge(3, 103053000432005L), 1);
        due("two figures", x.judge(2, 1995031099L), 1);
        due("inputs of two figures", x.judge(3, 199503009931050L), NONE);
        due("nothing there yet", x.judge(1, 40000), NONE);
        due("no value yet", x.judge(1, 30000), 0);
        due("depths", x.judge(3, 520005210054000L), 0);
        due("depths", x.judge(3, 521005310054000L), NONE);
        due("like", x.judge(3, 601006140062200L), NONE);
        due("not like", x.judge(2, 6140062300L), 1);
        due("the figures behind", x.judge(1, 20001), 0);
        due("the figures behind", x.judge(1, 20100), 0);
        due("the figures behind", x.judge(1, 21000), 0);
        due("the figures behind", x.judge(1, 40001), 0);
        due("the figures behind", x.judge(1, 40100), 0);
        due("the figures behind", x.judge(1, 54001), 0);
        due("the figures behind", x.judge(1, 61001), 0);
        due("the figures behind", x.judge(2, 1000030100L), 1);
        due("no such stream", x.judge(1, 45000), 0);
        due("no such stream", x.judge(1, 55000), 0);
        due("no such stream", x.judge(1, 65500), 0);
        due("no such stream", x.judge(1, 60500), 0);
        due("no such doing", x.judge(1, 70000), 0);
        due("no such doing", x.judge(1, 0), 0);
        due("the upper ones come first", x.judge(3, 20000), 0);
        due("the upper ones come first", x.judge(2, 2000000000L), 1);
        due("afresh", x.judge(3, 103052000040000L), NONE);
        x.tick(6, 1);
        due("the last tick", x.judge(1, 30006), NONE);
        due("afresh", x.judge(2, 2000030006L), 1);
        due("nothing changes", x.about(5), 1);
        due("nil is no value", ticked("S2I0P0", 3, 0).judge(1, 31000), 0);
        due("nil is there", ticked("S2I0P0", 3, 0).judge(1, 41000), 0);
        due("n 0", x.judge(0, 0), BAD);
        due("n 4", x.judge(4, 0), BAD);
        due("row -1", x.judge(1, -1), BAD);
        due("five figures", x.judge(1, 99999), 0);
        due("six figures", x.judge(1, 100000), BAD);
        due("ten figures", x.judge(2, 9999999999L), 0);
        due("eleven figures", x.judge(2, 10000000000L), BAD);
        due("fifteen figures", x.judge(3, 999999999999999L), 0);
        due("sixteen figures", x.judge(3, 1000000000000000L), BAD);
        due("all figures", x.judge(3, Long.MAX_VALUE), BAD);
        due("bad is told first", of(KNOTTED).judge(0, 0), BAD);
        due("late", of(KNOTTED).judge(1, 20000), LATE);
    }

    static void see() {
        promise("Promise 18");
        ClockedFlows x = new ClockedFlows();
        int[][] bad = {{0, 0, 0, 0}, {13, 0, 0, 0}, {1, -1, 0, 0}, {1, 8, 0, 0}, {1, 0, -1, 0}, {1, 0, 100, 0}, {1, 0, 0, -1}, {1, 0, 0, 2}};
        for (int[] b : bad) {
            due("see " + b[0] + " " + b[1] + " " + b[2] + " " + b[3], x.see(b[0], b[1], b[2], b[3]), BAD);
        }
        due("none", x.about(8), 0);
        for (int i = 1; i <= 6; i++) {
            due("seen", x.see(12, 7, 99, 1), i);
        }
        due("seventh", x.see(1, 0, 0, 0), FULL);
        due("bad is told first", x.see(0, 0, 0, 0), BAD);
        due("six", x.about(8), 6);
    }

    static void unsee() {
        promise("Promise 19");
        ClockedFlows x = of("S1I0");
        due("none", x.unsee(), 0);
        x.see(1, 0, 5, 1);
        x.see(2, 0, 5, 1);
        due("two", x.unsee(), 2);
        due("none", x.about(8), 0);
        due("any", x.inputs(0), 100);
    }

    static void inputs() {
        promise("Promise 20");
        ClockedFlows x = of("S4I0I1W10+01");
        due("any", x.inputs(0), 100);
        due("the first of any", x.inputs(1), 0);
        x.see(12, 0, 7, 1);
        due("by input 0", x.inputs(0), 10);
        due("the first", x.inputs(1), 70);
        x.see(3, 3, 12, 1);
        due("by the sum", x.inputs(0), 1);
        due("the one", x.inputs(1), 75);
        x.tick(50, 50);
        due("from afresh on", x.inputs(1), 75);
        x.see(1, 2, 5, 0);
        due("not so", x.inputs(0), 0);
        due("none", x.inputs(1), NONE);
        x.unsee();
        x.see(1, 2, 5, 0);
        due("not there, or not with that", x.inputs(0), 91);
        x.unsee();
        x.see(1, 7, 0, 0);
        due("what is not told is not there", x.inputs(0), 100);
        x.see(1, 7, 0, 1);
        due("what is not told is not there", x.inputs(0), 0);
        x.unsee();
        x.see(12, 3, 10, 1);
        x.tell(3, 2, 0, 0, 0);
        due("by the program as it is", x.inputs(1), 50);
        ClockedFlows counter = of(COUNTER);
        counter.see(12, 2, 12, 1);
        due("ticks count", counter.inputs(0), 100);
        counter.see(11, 2, 12, 1);
        due("ticks count", counter.inputs(0), 0);
        due("what", x.inputs(-1), BAD);
        due("what", x.inputs(2), BAD);
        due("bad is told first", of(KNOTTED).inputs(2), BAD);
        due("late", of(KNOTTED).inputs(0), LATE);
    }

    static void odds(ClockedFlows x, int[] asked, int above, int below) {
        String call = "odds of " + asked[0] + ", " + asked[1] + " times in " + asked[2] + " by " + asked[3];
        due(call + ", above", x.odds(asked[0], asked[1], asked[2], asked[3], true), above);
        due(call + ", below", x.odds(asked[0], asked[1], asked[2], asked[3], false), below);
    }

    static void odds() {
        promise("Promise 21");
        ClockedFlows x = of("S4I0W00N00I1");
        odds(x, new int[] {1, 1, 1, 5}, 1, 2);
        odds(x, new int[] {1, 1, 2, 3}, 51, 100);
        odds(x, new int[] {1, 2, 2, 3}, 9, 100);
        odds(x, new int[] {1, 0, 2, 3}, 1, 1);
        odds(x, new int[] {1, 3, 2, 3}, 0, 1);
        odds(x, new int[] {2, 2, 2, 3}, 49, 100);
        odds(x, new int[] {1, 6, 6, 10}, 1, 1);
        odds(x, new int[] {1, 1, 6, 0}, 0, 1);
        odds(x, new int[] {1, 6, 6, 1}, 1, 1000000);
        odds(x, new int[] {1, 1, 6, 1}, 468559, 1000000);
        odds(x, new int[] {0, 6, 6, 4}, 1, 1);
        odds(x, new int[] {0, 6, 5, 4}, 0, 1);
        ClockedFlows after = of("S3I0F00W01");
        odds(after, new int[] {2, 1, 1, 5}, 0, 1);
        after.tick(3, 0);
        odds(after, new int[] {2, 1, 1, 5}, 1, 1);
        due("nothing changes", after.about(5), 1);
        odds(of("S2I1W00"), new int[] {1, 1, 6, 9}, 0, 1);
        due("unknown", x.odds(4, 9, 9, 99, true), UNKNOWN);
        due("v", x.odds(0, -1, 1, 1, true), BAD);
        due("v", x.odds(0, 7, 1, 1, true), BAD);
        due("n", x.odds(0, 0, 0, 1, true), BAD);
        due("n", x.odds(0, 0, 7, 1, true), BAD);
        due("x", x.odds(0, 0, 1, -1, true), BAD);
        due("x", x.odds(0, 0, 1, 11, true), BAD);
        due("bad is told first", of(KNOTTED).odds(0, 0, 1, 11, true), BAD);
        due("late", of(KNOTTED).odds(0, 0, 1, 1, true), LATE);
    }

    static void seed() {
        promise("Promise 22");
        ClockedFlows x = new ClockedFlows();
        due("at first", x.seed(Long.MIN_VALUE), 0);
        due("was", x.seed(-1), Long.MIN_VALUE);
        due("was", x.seed(0), -1);
    }

    static void runs() {
        promise("Promise 23");
        ClockedFlows x = of("S2I0I1");
        due("one", x.runs(1), 2 + FIRST_A + FIRST_B);
        due("the seed", x.seed(0), 1442695040888963407L);
        due("two", x.runs(2), 4 + FIRST_A + FIRST_B + SECOND_A + SECOND_B);
        due("the seed", x.seed(0), SECOND_SEED);
        due("nothing changes", x.about(5), 0);
        ClockedFlows only = of("S1I1");
        due("input 1", only.runs(1), 1 + FIRST_B);
        due("nil counts as there", of("S2I0P0").runs(1), 2 + FIRST_A);
        due("ticks follow one another", of(COUNTER).runs(3), 9 + 0 + 1 + 2 + 3 + 1 + 2 + 3);
        due("from here on", ticked(COUNTER, 0, 0).runs(1), 3 + 1 + 1 + 2);
        due("what is not there", of("S4I0I1N00N11").runs(1), 2 + FIRST_A + FIRST_B);
        due("0", x.runs(0), BAD);
        due("31", x.runs(31), BAD);
        due("the seed stays", x.seed(0), 0);
        ClockedFlows knotted = of(KNOTTED);
        due("bad is told first", knotted.runs(31), BAD);
        due("late", knotted.runs(1), LATE);
        due("the seed stays", knotted.seed(0), 0);
    }

    static void keep() {
        promise("Promise 24");
        ClockedFlows x = ticked(COUNTER, 0, 0, 0, 0);
        due("-1", x.keep(-1), UNKNOWN);
        due("2", x.keep(2), UNKNOWN);
        due("0", x.keep(0), 2);
        due("doings stay", x.about(7), 2);
        x.tick(0, 0);
        due("1", x.keep(1), 3);
        due("0 again", x.keep(0), 3);
        due("0 has the later", x.again(0), 3);
        due("with no stream", new ClockedFlows().keep(0), 0);
    }

    static void again() {
        promise("Promise 25");
        ClockedFlows x = ticked(COUNTER, 0, 0, 0, 0);
        due("-1", x.again(-1), UNKNOWN);
        due("2", x.again(2), UNKNOWN);
        due("none", x.again(0), LATE);
        x.keep(0);
        due("none", x.again(1), LATE);
        x.tick(0, 0);
        x.tell(1, 1, 5, 0, 0);
        x.tell(0, 2, 0, 0, 0);
        due("not sound", x.about(4), 0);
        due("again", x.again(0), 2);
        due("sound", x.about(4), 1);
        due("no doings", x.about(7), 0);
        due("nothing to undo", x.undo(), LATE);
        values("values", x, 1, 1, 2);
        due("equations", x.figure(1, 0), 1);
        x.tick(0, 0);
        values("what is kept", x, 2, 1, 3);
        due("and again", x.again(0), 2);
        values("values", x, 1, 1, 2);
    }

    public static void main(String[] args) {
        newObject();
        write();
        wipe();
        fault();
        program();
        about();
        stream();
        figure();
        clock();
        tick();
        afresh();
        tell();
        undo();
        later();
        first();
        round();
        judge();
        see();
        unsee();
        inputs();
        odds();
        seed();
        runs();
        keep();
        again();
        end();
    }
}
