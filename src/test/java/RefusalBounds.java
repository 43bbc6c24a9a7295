/** REFUSALS, and all calls by which nothing is changed, in each state that an object can be in. */
public final class RefusalBounds extends Check {
    interface Call {
        long on(ClockedFlows x);
    }

    interface State {
        ClockedFlows make();
    }

    static final String ADDED = "S4I0F02+10W20";

    /** All that can be full is full, and all that can be kept is kept. */
    static ClockedFlows full() {
        ClockedFlows x = of(ADDED);
        x.tick(3, 1);
        x.keep(0);
        x.tick(0, 2);
        x.tell(3, 10, 2, 0, 0);
        x.tick(5, 5);
        x.keep(1);
        for (int i = 0; i < 12; i++) {
            x.tick(i, i);
        }
        for (int i = 0; i < 6; i++) {
            x.see(i + 1, 2, 4 * i + 4, 1);
        }
        x.seed(77);
        append(x, "K".repeat(40));
        return x;
    }

    /** Has doings and slots, but is not sound any more. */
    static ClockedFlows spoilt() {
        ClockedFlows x = ticked(ADDED, 3, 1, 4, 1);
        x.keep(0);
        x.tell(2, 2, 2, 2, 0);
        x.see(1, 0, 5, 1);
        x.seed(78);
        return x;
    }

    /** The call answers so, and behind it the object is as one on which it was not made. */
    static void changesNothing(String call, State state, Call made, long want) {
        ClockedFlows x = state.make();
        due(call, made.on(x), want);
        due("behind " + call + " all", trace(x), trace(state.make()));
    }

    static void refused(State state, long want, Call... calls) {
        for (int i = 0; i < calls.length; i++) {
            changesNothing("call " + i, state, calls[i], want);
        }
    }

    static void numbers() {
        sentence("REFUSALS", "UNKNOWN -1, BAD -2, LATE -3, FULL -4; NIL is -8, NONE -9", () -> {
            due("UNKNOWN", ClockedFlows.UNKNOWN, -1);
            due("BAD", ClockedFlows.BAD, -2);
            due("LATE", ClockedFlows.LATE, -3);
            due("FULL", ClockedFlows.FULL, -4);
            due("NIL", ClockedFlows.NIL, -8);
            due("NONE", ClockedFlows.NONE, -9);
        });
    }

    static void refusedByFull() {
        sentence("Promises 2, 18, REFUSALS", "FULL: what is refused changes nothing", () ->
            refused(RefusalBounds::full, FULL, x -> x.write('S'), x -> x.write(0), x -> x.see(1, 0, 0, 0), x -> x.see(12, 7, 99, 1)));
        sentence("Promises 5, 13, 25, REFUSALS", "LATE: what is refused changes nothing", () -> {
            refused(RefusalBounds::full, LATE, ClockedFlows::program);
            refused(ClockedFlows::new, LATE, ClockedFlows::program, ClockedFlows::undo, x -> x.again(0), x -> x.again(1));
        });
    }

    static void refusedByBad() {
        sentence("Promises 2, 6, 7, 18, REFUSALS", "BAD: what is refused changes nothing", () ->
            refused(RefusalBounds::full, BAD, x -> x.write(-1), x -> x.write(256), x -> x.about(-1), x -> x.about(10),
                x -> x.stream(0, -1), x -> x.stream(0, 5), x -> x.see(0, 0, 0, 0), x -> x.see(13, 0, 0, 0), x -> x.see(1, 8, 0, 0),
                x -> x.see(1, 0, 100, 0), x -> x.see(1, 0, 0, 2)));
        sentence("Promises 10, 12, REFUSALS", "BAD: what is refused changes nothing", () ->
            refused(RefusalBounds::full, BAD, x -> x.tick(-1, 0), x -> x.tick(0, 100), x -> x.tell(0, -1, 0, 0, 0),
                x -> x.tell(0, 12, 0, 0, 0), x -> x.tell(0, 0, 2, 0, 0), x -> x.tell(0, 1, 10, 0, 0), x -> x.tell(0, 2, 0, 4, 0),
                x -> x.tell(0, 5, 0, 0, 4), x -> x.tell(0, 7, 0, 1, 0), x -> x.tell(0, 2, 0, 0, 1)));
        sentence("Promises 14 to 17, REFUSALS", "BAD: what is refused changes nothing", () ->
            refused(RefusalBounds::full, BAD, x -> x.later(0, 0, 0, 0), x -> x.later(0, 41, 0, 0), x -> x.first(0, 100, 0, 0),
                x -> x.first(0, 0, 0, -1), x -> x.round(100, 0, 0), x -> x.round(0, 0, 2), x -> x.judge(0, 20000),
                x -> x.judge(4, 20000), x -> x.judge(1, 100000), x -> x.judge(1, -1)));
        sentence("Promises 20, 21, 23, REFUSALS", "BAD: what is refused changes nothing", () ->
            refused(RefusalBounds::full, BAD, x -> x.inputs(-1), x -> x.inputs(2), x -> x.odds(0, 7, 1, 0, true),
                x -> x.odds(0, 0, 7, 0, true), x -> x.odds(0, 0, 0, 0, true), x -> x.odds(0, 0, 1, 11, true), x -> x.runs(0),
                x -> x.runs(31)));
    }

    static void refusedByUnknown() {
        sentence("Promises 7 to 9, REFUSALS", "UNKNOWN: what is refused changes nothing", () ->
            refused(RefusalBounds::full, UNKNOWN, x -> x.stream(4, 0), x -> x.stream(-1, 4), x -> x.figure(4, 0),
                x -> x.figure(0, 1), x -> x.clock(4, 0), x -> x.clock(3, 1)));
        sentence("Promises 12 to 25, REFUSALS", "UNKNOWN: what is refused changes nothing", () ->
            refused(RefusalBounds::full, UNKNOWN, x -> x.tell(4, 1, 0, 0, 0), x -> x.tell(-1, 1, 0, 0, 0),
                x -> x.later(4, 1, 0, 0), x -> x.first(4, 0, 0, 0), x -> x.odds(4, 0, 1, 0, true), x -> x.keep(2),
                x -> x.keep(-1), x -> x.again(2), x -> x.again(-1)));
    }

    static void refusedByLate() {
        sentence("Promises 10 to 23, REFUSALS", "LATE: THE PROGRAM is not SOUND: what is refused changes nothing", () ->
            refused(RefusalBounds::spoilt, LATE, x -> x.tick(0, 0), x -> x.later(0, 1, 0, 0), x -> x.first(0, 0, 0, 0),
                x -> x.round(0, 0, 0), x -> x.judge(1, 20000), x -> x.judge(3, 101010101010101L), x -> x.inputs(0), x -> x.inputs(1),
                x -> x.odds(0, 0, 1, 0, true), x -> x.runs(1), x -> x.runs(30), x -> x.again(1)));
    }

    static void toldFirst() {
        sentence("REFUSALS", "Of several what is told first: UNKNOWN ahead of BAD", () -> {
            refused(RefusalBounds::full, UNKNOWN, x -> x.stream(4, 5), x -> x.tell(4, 12, 9, 9, 9), x -> x.later(4, 0, 100, 100),
                x -> x.first(4, 100, 100, 100), x -> x.odds(4, 7, 7, 11, true));
            refused(RefusalBounds::spoilt, UNKNOWN, x -> x.later(4, 0, 100, 100), x -> x.first(4, 100, 100, 100),
                x -> x.odds(4, 7, 7, 11, true));
        });
        sentence("REFUSALS", "Of several what is told first: BAD ahead of LATE", () ->
            refused(RefusalBounds::spoilt, BAD, x -> x.tick(100, 0), x -> x.later(0, 0, 0, 0), x -> x.first(0, 100, 0, 0),
                x -> x.round(0, 0, 2), x -> x.judge(0, 0), x -> x.inputs(2), x -> x.odds(0, 7, 1, 0, true), x -> x.runs(0)));
        sentence("REFUSALS", "Of several what is told first: UNKNOWN ahead of LATE", () -> {
            refused(RefusalBounds::spoilt, UNKNOWN, x -> x.later(4, 1, 0, 0), x -> x.first(4, 0, 0, 0), x -> x.odds(4, 0, 1, 0, true));
            refused(ClockedFlows::new, UNKNOWN, x -> x.again(2), x -> x.again(-1));
        });
        sentence("REFUSALS", "Of several what is told first: BAD ahead of FULL", () ->
            refused(RefusalBounds::full, BAD, x -> x.write(256), x -> x.see(0, 0, 0, 0)));
    }

    static void onlyAsked() {
        sentence("Promises 4, 6 to 9", "what is only asked changes nothing", () -> {
            State[] states = {RefusalBounds::full, RefusalBounds::spoilt, ClockedFlows::new};
            for (State state : states) {
                for (Call call : new Call[] {ClockedFlows::fault, x -> x.about(2), x -> x.stream(0, 2), x -> x.figure(0, 0), x -> x.clock(3, 0)}) {
                    changesNothing("a question", state, call, call.on(state.make()));
                }
            }
        });
        sentence("Promises 14 to 17", "In what follows nothing is changed", () -> {
            State[] states = {RefusalBounds::full, () -> of(ADDED), ClockedFlows::new};
            for (State state : states) {
                for (Call call : new Call[] {x -> x.later(2, 40, 9, 9), x -> x.first(2, 98, 1, 0), x -> x.round(1, 1, 0),
                    x -> x.judge(3, 101012000010202L), x -> x.judge(2, 2000010101L)}) {
                    changesNothing("ticks to come", state, call, call.on(state.make()));
                }
            }
        });
        sentence("Promises 20, 21", "In what follows nothing is changed", () -> {
            for (Call call : new Call[] {x -> x.inputs(0), x -> x.inputs(1), x -> x.odds(2, 3, 6, 4, true), x -> x.odds(3, 0, 1, 9, false)}) {
                changesNothing("chances", RefusalBounds::full, call, call.on(full()));
            }
        });
        sentence("Promise 23", "Nothing changes but THE SEED", () ->
            changesNothing("runs(30)", RefusalBounds::full, x -> {
                x.runs(30);
                x.seed(77);
                return 0;
            }, 0));
        sentence("Promise 24", "They are kept", () ->
            changesNothing("keep(0) once more", RefusalBounds::spoiltAndKept, x -> x.keep(0), 0));
    }

    static ClockedFlows spoiltAndKept() {
        ClockedFlows x = spoilt();
        x.keep(0);
        return x;
    }

    static void manyCalls() {
        sentence("What it is", "at most 512 calls after it has been made", () -> {
            ClockedFlows x = of(COUNTER);
            tick(x, 511 - COUNTER.length() - 1);
            due("the last call", x.stream(0, 4), 99);
        });
    }

    public static void main(String[] args) {
        numbers();
        refusedByFull();
        refusedByBad();
        refusedByUnknown();
        refusedByLate();
        toldFirst();
        onlyAsked();
        manyCalls();
        end();
    }
}
