import java.util.ArrayList;
import java.util.List;

/** What the tests share: answers compared, texts written, programs taken over, objects compared. */
abstract class Check {
    static final int UNKNOWN = -1, BAD = -2, LATE = -3, FULL = -4, NIL = -8, NONE = -9;
    static final int MIN = Integer.MIN_VALUE, MAX = Integer.MAX_VALUE;

    /** 0, 1, 2, ..; K1; 1, 2, 3, .. */
    static final String COUNTER = "S3F02K1+01";
    /** Two inputs, the one sampled by the other in two ways and merged again. */
    static final String MERGED = "S5I0I1W10N10M023";
    /** Clocks on clocks, three deep. */
    static final String DEEP = "S4I0W00W11N22";
    static final String KNOTTED = "S2+10+01";
    static final String CLASHING = "S3I0W00+01";
    static final String RAW = "S3I0P0P1";
    static final String[] NOT_SOUND = {KNOTTED, CLASHING, RAW};

    private static String where = "";
    private static int sentences = 0;
    private static int wrong = 0;

    /** The promise, or the term, that the calls to come belong to. */
    static void promise(String name) {
        where = name;
    }

    /** A sentence of the document, under the promise that it belongs to, with its own test. */
    static void sentence(String promise, String words, Runnable calls) {
        sentences++;
        where = promise + ", '" + words + "'";
        calls.run();
    }

    static void due(String call, long got, long want) {
        if (got != want) {
            tellWrong(call + " answered " + got + ", due is " + want);
        }
    }

    static void due(String call, Object got, Object want) {
        if (!got.equals(want)) {
            tellWrong(call + " answered " + got + ", due is " + want);
        }
    }

    private static void tellWrong(String what) {
        wrong++;
        System.out.println(where + ": " + what);
    }

    static void end() {
        String all = sentences == 0 ? "all answers are as due" : sentences + " sentences hold";
        System.out.println(wrong == 0 ? all : wrong + " answers are not as due");
        if (wrong != 0) {
            System.exit(1);
        }
    }

    // ---- objects

    static ClockedFlows written(String text) {
        ClockedFlows x = new ClockedFlows();
        append(x, text);
        return x;
    }

    static void append(ClockedFlows x, String text) {
        for (char letter : text.toCharArray()) {
            x.write(letter);
        }
    }

    static void rewrite(ClockedFlows x, String text) {
        x.wipe();
        append(x, text);
    }

    static ClockedFlows of(String text) {
        ClockedFlows x = written(text);
        x.program();
        return x;
    }

    /** With ticks worked: two inputs for each. */
    static ClockedFlows ticked(String text, int... inputs) {
        ClockedFlows x = of(text);
        for (int i = 0; i + 1 < inputs.length; i += 2) {
            x.tick(inputs[i], inputs[i + 1]);
        }
        return x;
    }

    static void tick(ClockedFlows x, int times) {
        for (int i = 0; i < times; i++) {
            x.tick(0, 0);
        }
    }

    // ---- what is asked of them

    /** The same question of each stream: stream(s, what). */
    static void ofEach(String call, ClockedFlows x, int what, int... want) {
        for (int s = 0; s < want.length; s++) {
            due(call + ": stream(" + s + ", " + what + ")", x.stream(s, what), want[s]);
        }
    }

    static void values(String call, ClockedFlows x, int... want) {
        ofEach(call, x, 4, want);
    }

    /** All that an object of four streams at most answers, and all that it can be brought back to. */
    static List<Long> trace(ClockedFlows x) {
        List<Long> all = new ArrayList<>();
        lookWhole(x, all);
        for (int left = x.undo(); left >= 0; left = x.undo()) {
            all.add((long) left);
            look(x, all);
        }
        for (int slot = 0; slot < 2; slot++) {
            all.add((long) x.again(slot));
            lookWhole(x, all);
        }
        all.add(x.seed(0));
        all.add((long) x.inputs(1));
        all.add((long) x.program());
        lookWhole(x, all);
        return all;
    }

    private static void lookWhole(ClockedFlows x, List<Long> all) {
        look(x, all);
        all.add((long) x.fault());
        all.add((long) x.inputs(0));
        all.add((long) x.clock(3, 0));
        all.add((long) x.later(2, 1, 1, 1));
        for (int what = 0; what < 10; what++) {
            all.add((long) x.about(what));
        }
    }

    private static void look(ClockedFlows x, List<Long> all) {
        all.add((long) x.about(5));
        for (int s = 0; s < 4; s++) {
            all.add((long) x.stream(s, 0));
            all.add((long) x.stream(s, 4));
        }
        all.add((long) x.figure(3, 0));
    }
}
