import java.lang.reflect.Field;
import java.lang.reflect.Method;
import java.lang.reflect.Modifier;
import java.nio.file.Files;
import java.nio.file.Path;
import java.util.ArrayList;
import java.util.HashSet;
import java.util.List;
import java.util.Set;
import java.util.TreeSet;

/** The face, and those rules of LANGUAGE.md that can be seen in the source or by reflection. */
public final class LanguageTest {
    static final String FACE = "about(int)int afresh()int again(int)int clock(int,int)int fault()int figure(int,int)int "
        + "first(int,int,int,int)int inputs(int)int judge(int,long)int keep(int)int later(int,int,int,int)int "
        + "odds(int,int,int,int,boolean)int program()int round(int,int,int)int runs(int)int see(int,int,int,int)int seed(long)long "
        + "stream(int,int)int tell(int,int,int,int,int)int tick(int,int)int undo()int unsee()int wipe()int write(int)int";
    private static int wrong = 0;

    static void want(boolean is, String what) {
        if (!is) {
            wrong++;
            System.out.println("not so: " + what);
        }
    }

    static List<Class<?>> classes() {
        List<Class<?>> all = new ArrayList<>();
        all.add(ClockedFlows.class);
        for (Class<?> inside : ClockedFlows.class.getDeclaredClasses()) {
            all.add(inside);
            want(Modifier.isStatic(inside.getModifiers()) && !Modifier.isPublic(inside.getModifiers()), inside + " is static, not public");
        }
        want(all.size() <= 12, "twelve classes at most");
        return all;
    }

    static void face() {
        Set<String> told = new TreeSet<>();
        Set<String> names = new HashSet<>();
        for (Method m : ClockedFlows.class.getDeclaredMethods()) {
            if (Modifier.isPrivate(m.getModifiers())) continue;
            StringBuilder types = new StringBuilder();
            for (Class<?> p : m.getParameterTypes()) types.append(types.length() == 0 ? "" : ",").append(p);
            told.add(m.getName() + "(" + types + ")" + m.getReturnType());
            names.add(m.getName());
            want(Modifier.isPublic(m.getModifiers()) && !Modifier.isStatic(m.getModifiers()), m + " is public, not static");
        }
        want(String.join(" ", told).equals(FACE), "the face is " + FACE + " but was " + told);
        want(Modifier.isFinal(ClockedFlows.class.getModifiers()), "the class is final");
        want(ClockedFlows.class.getDeclaredConstructors().length == 1, "one constructor");
        for (Class<?> c : classes()) {
            for (Method m : c.getDeclaredMethods()) {
                want(m.getParameterCount() <= 7, m + " takes seven at most");
                want(Modifier.isPublic(m.getModifiers()) || !names.contains(m.getName()), m + " has a name of its own");
            }
        }
    }

    static void fields() {
        int visible = 0;
        for (Class<?> c : classes()) {
            int own = 0;
            for (Field f : c.getDeclaredFields()) {
                boolean constant = Modifier.isStatic(f.getModifiers());
                want(!constant || Modifier.isFinal(f.getModifiers()), f + " is final");
                own += constant ? 0 : 1;
                if (c == ClockedFlows.class && !Modifier.isPrivate(f.getModifiers())) visible++;
            }
            want(own <= 20, c + " has twenty fields at most");
        }
        want(visible == 6, "six constants can be seen");
    }

    static String bare(String source) {
        return source.replaceAll("(?s)/\\*.*?\\*/", "").replaceAll("//[^\n]*", "").replaceAll("\"[^\"\n]*\"", "\"\"");
    }

    static void words(String source) {
        String bare = bare(source);
        for (String word : "throw try catch synchronized assert throws package Object equals hashCode toString Exact protected".split(" ")) {
            want(!bare.matches("(?s).*\\b" + word + "\\b.*"), "no " + word);
        }
        want(!bare.contains("->") && !bare.contains("::"), "no lambda, no method reference");
        for (String line : bare.split("\n")) {
            want(!line.startsWith("import") || line.equals("import java.util.Arrays;"), line + " is a listed import");
        }
        for (char sign : source.toCharArray()) want(sign < 128, "plain signs");
    }

    /** Rule 7 and rule 12, as far as they are kept by going through one place. */
    static void guards(String source) {
        String bare = bare(source);
        want(!bare.contains("] / 10"), "the stream of a clock is looked at before it is an index: streamOf");
        want(!bare.contains("].become(") && !bare.matches("(?s).*become\\(\\w+\\[.*"), "a flow of a row is looked at for null: carry");
        for (String line : bare.split("\n")) {
            boolean made = line.matches(".*\\bnew\\b.*");
            boolean once = line.matches(" +(private )?final .* = new .*;") || line.matches(" +\\w+\\[i\\] = new Flow\\(\\);");
            want(!made || once, "rows are made in constructors: " + line.trim());
        }
    }

    static void lengths(String source) {
        String name = "";
        int from = -1;
        String[] lines = source.split("\n");
        for (int i = 0; i < lines.length; i++) {
            if (lines[i].matches(" {4}( {4})?[^ /*}].*\\) \\{")) {
                name = lines[i].trim();
                from = i;
            } else if (lines[i].matches(" {4}( {4})?}") && from >= 0) {
                want(i - from < 60, name + " is short");
                from = -1;
            }
        }
    }

    public static void main(String[] args) throws Exception {
        String source = Files.readString(Path.of("src/main/java/ClockedFlows.java"));
        face();
        fields();
        words(source);
        guards(source);
        lengths(source);
        System.out.println(wrong == 0 ? "the rules that can be seen are kept" : wrong + " rules are broken");
        if (wrong != 0) System.exit(1);
    }
}
