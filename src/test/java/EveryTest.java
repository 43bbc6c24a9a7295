import java.util.ArrayList;
import java.util.List;

/**
 * Every program of one stream and of two, and what is worked by it, against the model of ModelTest
 * (java EveryTest 3: those of three streams too, some half a minute).
 */
public final class EveryTest {
    static final int[][] INPUTS = {{0, 3}, {1, 0}, {5, 2}, {0, 0}, {2, 1}};
    private static int programs = 0;
    private static int sound = 0;
    private static int wrong = 0;

    /** All equations that can stand among n streams. */
    static List<String> equations(int n) {
        List<String> all = new ArrayList<>();
        for (int kind = 0; kind < ModelTest.SHAPES.length; kind++) {
            List<String> begun = List.of(String.valueOf(ModelTest.LETTERS.charAt(kind)));
            for (char place : ModelTest.SHAPES[kind].toCharArray()) {
                String figures = place == 'i' ? "01" : place == 'v' ? "0123456789" : "01234567".substring(0, n);
                begun = longer(begun, figures);
            }
            all.addAll(begun);
        }
        return all;
    }

    static List<String> longer(List<String> begun, String figures) {
        List<String> all = new ArrayList<>();
        for (String text : begun) {
            for (char figure : figures.toCharArray()) {
                all.add(text + figure);
            }
        }
        return all;
    }

    static void same(String text, String call, long got, long want) {
        if (got != want) {
            wrong++;
            System.out.println(text + ": " + call + " answered " + got + ", the model says " + want);
        }
    }

    static void check(String text) {
        ClockedFlows x = Check.written(text);
        ModelTest.Model m = new ModelTest.Model();
        m.text = text;
        programs++;
        same(text, "fault()", x.fault(), m.fault());
        same(text, "program()", x.program(), m.program());
        for (int what = 0; what < 10; what++) {
            same(text, "about(" + what + ")", x.about(what), m.about(what));
        }
        for (int s = 0; s < m.n(); s++) {
            for (int i = 0; i < 4; i++) {
                same(text, "stream(" + s + ", " + i + ")", x.stream(s, i), m.stream(s, i));
                same(text, "figure(" + s + ", " + i + ")", x.figure(s, i), m.figure(s, i));
                same(text, "clock(" + s + ", " + i + ")", x.clock(s, i), m.clock(s, i));
            }
        }
        work(text, x, m);
    }

    static void work(String text, ClockedFlows x, ModelTest.Model m) {
        sound += m.sound();
        for (int[] in : INPUTS) {
            same(text, "tick(" + in[0] + ", " + in[1] + ")", x.tick(in[0], in[1]), m.tick(in[0], in[1]));
            same(text, "about(6)", x.about(6), m.about(6));
            for (int s = 0; s < m.n(); s++) {
                same(text, "stream(" + s + ", 4)", x.stream(s, 4), m.stream(s, 4));
            }
        }
        same(text, "round(2, 1, 0)", x.round(2, 1, 0), m.round(2, 1, 0));
        same(text, "round(2, 1, 1)", x.round(2, 1, 1), m.round(2, 1, 1));
        same(text, "runs(3)", x.runs(3), m.runs(3));
        same(text, "undo()", x.undo(), m.undo());
        same(text, "later(0, 3, 1, 0)", x.later(0, 3, 1, 0), m.later(0, 3, 1, 0));
    }

    static void checkAll(String begun, List<String> equations, int left) {
        if (left == 0) {
            check(begun);
            return;
        }
        for (String one : equations) {
            checkAll(begun + one, equations, left - 1);
        }
    }

    public static void main(String[] args) {
        int most = args.length > 0 ? Integer.parseInt(args[0]) : 2;
        for (int n = 1; n <= most; n++) {
            checkAll("S" + n, equations(n), n);
        }
        System.out.println(wrong == 0 ? programs + " programs answer as the model, " + sound + " of them sound" : wrong + " answers are not the model's");
        if (wrong != 0 || sound == 0) {
            System.exit(1);
        }
    }
}
