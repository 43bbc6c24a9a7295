/** REFUSALS, and all calls by which nothing is changed, in each state that an object can be in. */
public final class RefusalBounds extends Check {
    interface Call {
        long on(ClockedFlows x);
    }

    interface State {
        ClockedFlows make();
    }

    static final String ADDED = "S4I0F02+10W20";

    /** All that can be full is full, and all that can be kept is kept. */
    static ClockedFlows full() {
        ClockedFlows x = of(ADDED);
        x.tick(3, 1);
        x.keep(0);
        x.tick(0, 2);
        x.tell(3, 10, 2, 0, 0);
        x.tick(5, 5);
        x.keep(1);
        for (int i = 0; i < 12; i++) {
            x.tick(i, i);
        }
        for (int i = 0; i < 6; i++) {
            x.see(i + 1, 2, 4 * i + 4, 1);
        }
        x.seed(77);
        append(x, "K".repeat(40));
        return x;
    }

    /** Has doings and slots, but is not sound any more. */
    static ClockedFlows spoilt() {
        ClockedFlows x = ticked(ADDED, 3, 1, 4, 1);
        x.keep(0);
        x.tell(2, 2, 2, 2, 0);
        x.see(1, 0, 5, 1);
        x.seed(78);
        return x;
    }

    /** The call answers so, and behind it the object is as one on which it was not made. */
    static void changesNothing(String call, State state, Call made, long want) {
        ClockedFlows x = state.make();
        due(call, made.on(x), want);
        due("behind " + call + " all", trace(x), trace(state.make()));
    }

    static void each(String promise, String words, State state, long want, Call... calls) {
        sentence(promise, words, () -> {
            for (int i = 0; i < calls.length; i++) {
                changesNothing("call " + i, state, calls[i], want);
            }
        });
    }

    static void refused(String promise, State state, long want, Call... calls) {
        each(promise, "What is refused changes nothing", state, want, calls);
    }

    static void toldFirst(String promise, State state, long want, Call... calls) {
        each(promise, "Of several what is told first", state, want, calls);
    }

    static void numbers() {
        sentence("REFUSALS", "UNKNOWN -1 (there is no such STREAM, SLOT), BAD -2, LATE -3, FULL -4", () -> {
            due("UNKNOWN", ClockedFlows.UNKNOWN, -1);
            due("BAD", ClockedFlows.BAD, -2);
            due("LATE", ClockedFlows.LATE, -3);
            due("FULL", ClockedFlows.FULL, -4);
            due("NIL", ClockedFlows.NIL, -8);
            due("NONE", ClockedFlows.NONE, -9);
        });
    }

    static void program() {
        State full = RefusalBounds::full;
        State fresh = ClockedFlows::new;
        refused("Promise 2, FULL", full, FULL, x -> x.write('S'), x -> x.write(0));
        refused("Promise 2, BAD", full, BAD, x -> x.write(-1), x -> x.write(256));
        refused("Promise 5, LATE", full, LATE, ClockedFlows::program);
        refused("Promise 5, LATE", fresh, LATE, ClockedFlows::program);
        refused("Promise 6, BAD", full, BAD, x -> x.about(-1), x -> x.about(10));
        refused("Promise 7, UNKNOWN", full, UNKNOWN, x -> x.stream(-1, 4), x -> x.stream(4, 0));
        refused("Promise 7, BAD", full, BAD, x -> x.stream(0, -1), x -> x.stream(0, 5));
        refused("Promise 8, UNKNOWN", full, UNKNOWN, x -> x.figure(4, 0), x -> x.figure(0, 1), x -> x.figure(0, -1));
        refused("Promise 9, UNKNOWN", full, UNKNOWN, x -> x.clock(4, 0), x -> x.clock(3, 1), x -> x.clock(3, -1));
        toldFirst("Promise 2, BAD ahead of FULL", full, BAD, x -> x.write(-1), x -> x.write(256));
        toldFirst("Promise 7, UNKNOWN ahead of BAD", full, UNKNOWN, x -> x.stream(4, 5), x -> x.stream(-1, -1));
    }

    static void doings() {
        State full = RefusalBounds::full;
        State spoilt = RefusalBounds::spoilt;
        refused("Promise 10, BAD", full, BAD, x -> x.tick(-1, 0), x -> x.tick(100, 0), x -> x.tick(0, -1), x -> x.tick(0, 100));
        refused("Promise 10, LATE", spoilt, LATE, x -> x.tick(0, 0), x -> x.tick(99, 99));
        refused("Promise 12, UNKNOWN", full, UNKNOWN, x -> x.tell(4, 1, 0, 0, 0), x -> x.tell(-1, 1, 0, 0, 0));
        refused("Promise 12, BAD", full, BAD, x -> x.tell(0, -1, 0, 0, 0), x -> x.tell(0, 12, 0, 0, 0), x -> x.tell(0, 0, 2, 0, 0),
            x -> x.tell(0, 1, 10, 0, 0), x -> x.tell(0, 2, 0, 4, 0), x -> x.tell(0, 5, 0, 0, 4), x -> x.tell(0, 7, 0, 1, 0),
            x -> x.tell(0, 2, 0, 0, 1));
        refused("Promise 13, LATE", ClockedFlows::new, LATE, ClockedFlows::undo);
        refused("Promise 13, LATE", () -> of(ADDED), LATE, ClockedFlows::undo);
        toldFirst("Promise 10, BAD ahead of LATE", spoilt, BAD, x -> x.tick(100, 0), x -> x.tick(0, -1));
        toldFirst("Promise 12, UNKNOWN ahead of BAD", full, UNKNOWN, x -> x.tell(4, 12, 0, 0, 0), x -> x.tell(-1, 1, 9, 9, 9));
    }

    static void ticksToCome() {
        State full = RefusalBounds::full;
        State spoilt = RefusalBounds::spoilt;
        refused("Promise 14, UNKNOWN", full, UNKNOWN, x -> x.later(4, 1, 0, 0));
        refused("Promise 14, BAD", full, BAD, x -> x.later(0, 0, 0, 0), x -> x.later(0, 41, 0, 0), x -> x.later(0, 1, 0, 100));
        refused("Promise 14, LATE", spoilt, LATE, x -> x.later(0, 1, 0, 0));
        refused("Promise 15, UNKNOWN", full, UNKNOWN, x -> x.first(4, 0, 0, 0));
        refused("Promise 15, BAD", full, BAD, x -> x.first(0, 100, 0, 0), x -> x.first(0, 0, 0, -1));
        refused("Promise 15, LATE", spoilt, LATE, x -> x.first(0, 0, 0, 0));
        refused("Promise 16, BAD", full, BAD, x -> x.round(100, 0, 0), x -> x.round(0, 0, 2));
        refused("Promise 16, LATE", spoilt, LATE, x -> x.round(0, 0, 0), x -> x.round(0, 0, 1));
        refused("Promise 17, BAD", full, BAD, x -> x.judge(0, 20000), x -> x.judge(4, 20000), x -> x.judge(1, 100000),
            x -> x.judge(1, -1));
        refused("Promise 17, LATE", spoilt, LATE, x -> x.judge(1, 20000), x -> x.judge(3, 101010101010101L));
        toldFirst("Promise 14, UNKNOWN ahead of BAD", full, UNKNOWN, x -> x.later(4, 0, 100, 100));
        toldFirst("Promise 14, UNKNOWN ahead of LATE", spoilt, UNKNOWN, x -> x.later(4, 1, 0, 0), x -> x.later(4, 0, 0, 0));
        toldFirst("Promise 14, BAD ahead of LATE", spoilt, BAD, x -> x.later(0, 0, 0, 0), x -> x.later(0, 1, 100, 0));
        toldFirst("Promise 15, UNKNOWN ahead of BAD", full, UNKNOWN, x -> x.first(4, 100, 100, 100));
        toldFirst("Promise 15, UNKNOWN ahead of LATE", spoilt, UNKNOWN, x -> x.first(4, 0, 0, 0), x -> x.first(4, 100, 0, 0));
        toldFirst("Promise 15, BAD ahead of LATE", spoilt, BAD, x -> x.first(0, 100, 0, 0), x -> x.first(0, 0, 0, 100));
        toldFirst("Promise 16, BAD ahead of LATE", spoilt, BAD, x -> x.round(0, 0, 2), x -> x.round(0, 100, 0));
        toldFirst("Promise 17, BAD ahead of LATE", spoilt, BAD, x -> x.judge(0, 0), x -> x.judge(1, 100000));
    }

    static void chances() {
        State full = RefusalBounds::full;
        State spoilt = RefusalBounds::spoilt;
        refused("Promise 18, FULL", full, FULL, x -> x.see(1, 0, 0, 0), x -> x.see(12, 7, 99, 1));
        refused("Promise 18, BAD", spoilt, BAD, x -> x.see(0, 0, 0, 0), x -> x.see(13, 0, 0, 0), x -> x.see(1, 8, 0, 0),
            x -> x.see(1, 0, 100, 0), x -> x.see(1, 0, 0, 2));
        refused("Promise 20, BAD", full, BAD, x -> x.inputs(-1), x -> x.inputs(2));
        refused("Promise 20, LATE", spoilt, LATE, x -> x.inputs(0), x -> x.inputs(1));
        refused("Promise 21, UNKNOWN", full, UNKNOWN, x -> x.odds(4, 0, 1, 0, true));
        refused("Promise 21, BAD", full, BAD, x -> x.odds(0, 7, 1, 0, true), x -> x.odds(0, 0, 7, 0, true),
            x -> x.odds(0, 0, 0, 0, true), x -> x.odds(0, 0, 1, 11, true));
        refused("Promise 21, LATE", spoilt, LATE, x -> x.odds(0, 0, 1, 0, true));
        refused("Promise 23, BAD", full, BAD, x -> x.runs(0), x -> x.runs(31));
        refused("Promise 23, LATE", spoilt, LATE, x -> x.runs(1), x -> x.runs(30));
        refused("Promise 24, UNKNOWN", full, UNKNOWN, x -> x.keep(-1), x -> x.keep(2));
        refused("Promise 25, UNKNOWN", full, UNKNOWN, x -> x.again(-1), x -> x.again(2));
        refused("Promise 25, LATE", spoilt, LATE, x -> x.again(1));
        toldFirst("Promise 18, BAD ahead of FULL", full, BAD, x -> x.see(0, 0, 0, 0), x -> x.see(1, 0, 0, 2));
        toldFirst("Promise 20, BAD ahead of LATE", spoilt, BAD, x -> x.inputs(-1), x -> x.inputs(2));
        toldFirst("Promise 21, UNKNOWN ahead of BAD", full, UNKNOWN, x -> x.odds(4, 7, 7, 11, true));
        toldFirst("Promise 21, UNKNOWN ahead of LATE", spoilt, UNKNOWN, x -> x.odds(4, 0, 1, 0, true), x -> x.odds(4, 7, 1, 0, true));
        toldFirst("Promise 21, BAD ahead of LATE", spoilt, BAD, x -> x.odds(0, 7, 1, 0, true));
        toldFirst("Promise 23, BAD ahead of LATE", spoilt, BAD, x -> x.runs(0), x -> x.runs(31));
        toldFirst("Promise 25, UNKNOWN ahead of LATE", ClockedFlows::new, UNKNOWN, x -> x.again(-1), x -> x.again(2));
    }

    static void onlyAsked() {
        sentence("Promises 4, 6 to 9", "Nothing is promised beyond the answers and state changes described above", () -> {
            State[] states = {RefusalBounds::full, RefusalBounds::spoilt, ClockedFlows::new};
            for (State state : states) {
                for (Call call : new Call[] {ClockedFlows::fault, x -> x.about(2), x -> x.stream(0, 2), x -> x.figure(0, 0), x -> x.clock(3, 0)}) {
                    changesNothing("a question", state, call, call.on(state.make()));
                }
            }
        });
        sentence("Promises 14 to 17", "In what follows nothing is changed", () -> {
            State[] states = {RefusalBounds::full, () -> of(ADDED), ClockedFlows::new};
            for (State state : states) {
                for (Call call : new Call[] {x -> x.later(2, 40, 9, 9), x -> x.first(2, 98, 1, 0), x -> x.round(1, 1, 0),
                    x -> x.judge(3, 101012000010202L), x -> x.judge(2, 2000010101L)}) {
                    changesNothing("ticks to come", state, call, call.on(state.make()));
                }
            }
        });
        sentence("Promises 20, 21", "In what follows nothing is changed", () -> {
            for (Call call : new Call[] {x -> x.inputs(0), x -> x.inputs(1), x -> x.odds(2, 3, 6, 4, true), x -> x.odds(3, 0, 1, 9, false)}) {
                changesNothing("chances", RefusalBounds::full, call, call.on(full()));
            }
        });
        sentence("Promise 23", "Nothing changes but THE SEED", () ->
            changesNothing("runs(30)", RefusalBounds::full, x -> {
                x.runs(30);
                x.seed(77);
                return 0;
            }, 0));
        sentence("Promise 24", "They are kept", () ->
            changesNothing("keep(0) once more", RefusalBounds::spoiltAndKept, x -> x.keep(0), 0));
    }

    static ClockedFlows spoiltAndKept() {
        ClockedFlows x = spoilt();
        x.keep(0);
        return x;
    }

    static void manyCalls() {
        sentence("What it is", "at most 512 calls after it has been made", () -> {
            ClockedFlows x = of(COUNTER);
            tick(x, 511 - COUNTER.length() - 1);
            due("the last call", x.stream(0, 4), 99);
        });
    }

    public static void main(String[] args) {
        numbers();
        program();
        doings();
        ticksToCome();
        chances();
        onlyAsked();
        manyCalls();
        end();
    }
}
