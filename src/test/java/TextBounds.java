/** Boundary cases of promises 1 to 5, and of THE TEXT, PROGRAMS and FAULTS in "Terms". */
public final class TextBounds extends Check {
    static final String KINDS = "IK+-<?FPAWNM";
    /** What stands behind the letter of a kind: an input, a value, or streams. */
    static final String[] SHAPES = {"i", "v", "ss", "ss", "ss", "sss", "vs", "s", "ss", "ss", "ss", "sss"};
    static final String[] EVERY_KIND = {"S8I1K9+76-54<32?107F97P0", "S4A32W10N23M012"};
    static final String LONGEST = "S8" + "M777".repeat(8);

    static String longText(String start, int length) {
        return start + "S".repeat(length - start.length());
    }

    static int faultOf(String text) {
        return written(text).fault();
    }

    /** The letters of 0 .. 255 that do not make a fault behind a text. */
    static String takenBehind(String text) {
        StringBuilder taken = new StringBuilder();
        for (int letter = 0; letter < 256; letter++) {
            ClockedFlows x = written(text);
            x.write(letter);
            if (x.fault() != text.length()) {
                taken.append((char) letter);
            }
        }
        return taken.toString();
    }

    static void newObject() {
        sentence("Promise 1", "No streams", () -> {
            ClockedFlows x = new ClockedFlows();
            due("about(0)", x.about(0), 0);
            for (int s = 0; s < 8; s++) {
                due("stream(" + s + ", 0)", x.stream(s, 0), UNKNOWN);
                due("figure(" + s + ", 0)", x.figure(s, 0), UNKNOWN);
                due("clock(" + s + ", 0)", x.clock(s, 0), UNKNOWN);
            }
            due("tick(0, 0)", x.tick(0, 0), 0);
            due("runs(30)", x.runs(30), 0);
        });
        sentence("Promise 1", "At first there is no STREAM", () -> {
            of(LONGEST);
            due("about(0) of another new object", new ClockedFlows().about(0), 0);
        });
    }

    static void write() {
        sentence("Promise 2", "A letter (0 .. 255)", () -> {
            ClockedFlows x = new ClockedFlows();
            for (int letter : new int[] {-1, 256, 256 + 'S', 'S' - 256, MIN, MAX}) {
                due("write(" + letter + ")", x.write(letter), BAD);
            }
            due("write(0)", x.write(0), 1);
            due("write(255)", x.write(255), 2);
        });
        sentence("Promise 2", "comes behind THE TEXT: how long it is", () -> {
            ClockedFlows x = new ClockedFlows();
            for (int i = 1; i <= 40; i++) {
                due("letter " + i, x.write('S'), i);
            }
        });
        sentence("Promise 2", "FULL: there are 40", () -> {
            ClockedFlows x = written(longText("S1K0", 39));
            due("the 40th", x.write('S'), 40);
            due("the 41st", x.write('S'), FULL);
            due("the 41st once more", x.write('S'), FULL);
            due("about(9)", x.about(9), 40);
            x.wipe();
            due("behind a wipe", x.write('S'), 1);
        });
        sentence("Promise 2", "BAD; FULL", () -> {
            ClockedFlows x = written(longText("", 40));
            due("write(-1)", x.write(-1), BAD);
            due("write(256)", x.write(256), BAD);
        });
    }

    static void wipe() {
        sentence("Promise 3", "THE TEXT is empty: how long it was", () -> {
            ClockedFlows x = written(longText("S1K0", 40));
            due("of 40", x.wipe(), 40);
            due("of none", x.wipe(), 0);
            due("about(9)", x.about(9), 0);
            due("fault()", x.fault(), 0);
            append(x, "S1");
            due("of 2", x.wipe(), 2);
        });
        sentence("Promise 3", "THE TEXT is empty", () -> {
            for (int length = 0; length < COUNTER.length(); length++) {
                ClockedFlows x = written(COUNTER);
                rewrite(x, COUNTER.substring(0, length));
                due("what stood behind " + length + " is gone: fault()", x.fault(), length);
                due("and program()", x.program(), LATE);
            }
        });
        sentence("Promise 3", "Nothing is promised beyond the answers and state changes described above", () -> {
            ClockedFlows x = ticked(COUNTER, 0, 0);
            x.wipe();
            due("the program stays: about(0)", x.about(0), 3);
            due("the tick stays: about(5)", x.about(5), 1);
            values("values stay", x, 0, 1, 1);
            due("doings stay: undo()", x.undo(), 0);
        });
    }

    static void fault() {
        sentence("Promise 4", "FAULT; NONE", () -> {
            for (String text : EVERY_KIND) {
                due("fault of " + text, faultOf(text), NONE);
            }
            due("fault of the shortest", faultOf("S1K0"), NONE);
            due("fault of the longest", faultOf(LONGEST), NONE);
        });
        sentence("Promise 4", "its length, if it is only not at its end", () -> {
            for (String text : EVERY_KIND) {
                for (int length = 0; length < text.length(); length++) {
                    String part = text.substring(0, length);
                    due("fault of " + part, faultOf(part), length);
                }
            }
        });
        sentence("Promise 4", "the first letter by which THE TEXT can be no PROGRAM, whatever came behind it", () -> {
            ClockedFlows x = written("S2I0X");
            for (int length = 5; length <= 40; length++) {
                due("fault of " + length + " letters", x.fault(), 4);
                x.write("I0S1".charAt(length % 4));
            }
            due("of two the first", faultOf("S2X0Y1"), 2);
            due("a figure ahead of a kind", faultOf("S2+02X"), 4);
        });
        sentence("Promise 4", "its length set aside", () -> {
            due("fault of 40 letters", faultOf(longText(LONGEST, 40)), 34);
            due("fault of 40 letters", faultOf(longText("S1K0", 40)), 4);
        });
    }

    static void texts() {
        sentence("Promise 4, PROGRAM", "S, n (1 .. 8)", () -> {
            due("the first letter", takenBehind(""), "S");
            due("n", takenBehind("S"), "12345678");
        });
        sentence("Promise 4, PROGRAM", "then n EQUATIONS, one behind the other", () -> {
            for (int n = 1; n <= 8; n++) {
                String text = "S" + n + "K0".repeat(n);
                due("fault of " + text, faultOf(text), NONE);
                due("one too few", faultOf("S" + n + "K0".repeat(n - 1)), 2 * n);
                due("letters behind " + text, takenBehind(text), "");
            }
        });
        sentence("Promise 4, EQUATION", "Ii (KIND 0)", () -> {
            due("kinds", takenBehind("S1"), "+-<?AFIKMNPW");
            due("kinds of the last", takenBehind("S8" + "K0".repeat(7)), "+-<?AFIKMNPW");
        });
        sentence("Promise 4, EQUATION", "INPUT i (0, 1)", () -> {
            due("i", takenBehind("S1I"), "01");
            due("i of eight", takenBehind("S8I"), "01");
        });
        sentence("Promise 4, EQUATION", "v a figure 0 .. 9", () -> {
            due("v of K", takenBehind("S1K"), "0123456789");
            due("v of F", takenBehind("S1F"), "0123456789");
        });
        sentence("Promise 4, EQUATION", "a, b, c: figures less than n", () -> {
            for (int n = 1; n <= 8; n++) {
                for (int kind = 0; kind < KINDS.length(); kind++) {
                    streamPlaces("S" + n + KINDS.charAt(kind), SHAPES[kind], "01234567".substring(0, n));
                }
            }
        });
    }

    static void streamPlaces(String start, String shape, String less) {
        for (int i = 0; i < shape.length(); i++) {
            String text = start + "0".repeat(i);
            if (shape.charAt(i) == 's') {
                due("figures behind " + text, takenBehind(text), less);
            }
        }
    }

    static void program() {
        sentence("Promise 5", "LATE: a FAULT", () -> {
            for (String text : new String[] {"", "S", "S1", "S1K", "S1K00", "S1I2", "S0", "S9", "S2K0", "s1K0"}) {
                due("program() of '" + text + "'", written(text).program(), LATE);
            }
        });
        sentence("Promise 5", "1 if it is SOUND, 0", () -> {
            due("sound", written(COUNTER).program(), 1);
            for (String text : NOT_SOUND) {
                due("program() of " + text, written(text).program(), 0);
                due("it is taken over: about(0)", of(text).about(0), text.charAt(1) - '0');
            }
        });
        sentence("Promise 5", "THE TEXT is THE PROGRAM, AFRESH", () -> {
            ClockedFlows x = ticked(COUNTER, 0, 0, 0, 0);
            due("once more", x.program(), 1);
            due("THE TICK", x.about(5), 0);
            due("none is there", x.about(6), 0);
            values("no values", x, NONE, NONE, NONE);
            x.tick(0, 0);
            values("as at first", x, 0, 1, 1);
            due("THE TEXT stays", x.about(9), COUNTER.length());
        });
        sentence("Promise 5", "THE TEXT is THE PROGRAM", () -> {
            ClockedFlows x = ticked("S8" + "+00".repeat(7) + "P0");
            rewrite(x, "S1K7");
            due("fewer streams", x.program(), 1);
            due("about(0)", x.about(0), 1);
            due("no knot of old", x.about(2), 0);
            due("one is there", x.tick(0, 0), 1);
            due("its bit", x.about(6), 1);
            due("the second is gone", x.stream(1, 0), UNKNOWN);
            due("round(0, 0, 0)", x.round(0, 0, 0), 1);
        });
        programKeeps();
    }

    static void programKeeps() {
        sentence("Promise 5", "no DOINGS", () -> {
            ClockedFlows x = ticked(COUNTER, 0, 0, 0, 0);
            x.program();
            due("about(7)", x.about(7), 0);
            due("undo()", x.undo(), LATE);
        });
        sentence("Promise 5", "what was kept is gone", () -> {
            ClockedFlows x = ticked(COUNTER, 0, 0);
            x.keep(0);
            x.keep(1);
            x.program();
            due("again(0)", x.again(0), LATE);
            due("again(1)", x.again(1), LATE);
            due("keep(0)", x.keep(0), 0);
            due("again(0)", x.again(0), 0);
        });
        sentence("Promise 5", "SEEN, THE SEED stay", () -> {
            ClockedFlows x = written("S1I0");
            x.see(1, 0, 5, 1);
            x.seed(77);
            x.program();
            due("about(8)", x.about(8), 1);
            due("inputs(1)", x.inputs(1), 50);
            due("seed(0)", x.seed(0), 77);
        });
    }

    public static void main(String[] args) {
        newObject();
        write();
        wipe();
        fault();
        texts();
        program();
        end();
    }
}
