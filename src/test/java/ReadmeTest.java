import java.io.IOException;
import java.lang.reflect.Method;
import java.lang.reflect.Modifier;
import java.nio.file.Files;
import java.nio.file.Path;
import java.util.List;
import java.util.regex.Matcher;
import java.util.regex.Pattern;
import java.util.stream.Collectors;
import java.util.stream.Stream;

/** README.md: its example answers as its comments say, and it names every call and every test. */
public final class ReadmeTest extends Check {
    static final Pattern TEXT = Pattern.compile("\"([^\"]*)\"\\.toCharArray\\(\\)");
    static final Pattern CALL = Pattern.compile("x\\.(\\w+)\\(([^)]*)\\);\\s*// (-?\\d+)\\b.*");

    static String example(String readme) {
        int from = readme.indexOf("```java");
        int to = from < 0 ? -1 : readme.indexOf("```", from + 3);
        return to < 0 ? "" : readme.substring(from, to);
    }

    static Method method(String name) {
        for (Method m : ClockedFlows.class.getDeclaredMethods()) {
            if (Modifier.isPublic(m.getModifiers()) && m.getName().equals(name)) {
                return m;
            }
        }
        return null;
    }

    static Object argument(Class<?> type, String told) {
        if (type == boolean.class) {
            return Boolean.valueOf(told);
        }
        if (type == long.class) {
            return Long.valueOf(told.replace("L", ""));
        }
        return Integer.valueOf(told);
    }

    static long answer(ClockedFlows x, String name, String told) throws ReflectiveOperationException {
        Method m = method(name);
        String[] parts = told.isEmpty() ? new String[0] : told.split(", ");
        Object[] arguments = new Object[parts.length];
        for (int i = 0; i < parts.length; i++) {
            arguments[i] = argument(m.getParameterTypes()[i], parts[i]);
        }
        return ((Number) m.invoke(x, arguments)).longValue();
    }

    static void exampleHolds(String readme) throws ReflectiveOperationException {
        promise("README.md, the example");
        String example = example(readme);
        Matcher text = TEXT.matcher(example);
        due("a text is written", text.find(), true);
        ClockedFlows x = written(text.group(1));
        int calls = 0;
        for (String line : example.split("\n")) {
            Matcher call = CALL.matcher(line);
            if (call.matches()) {
                calls++;
                due(line, answer(x, call.group(1), call.group(2)), Long.parseLong(call.group(3)));
            } else {
                due("'" + line + "' tells what it answers", line.startsWith("x."), false);
            }
        }
        due("calls are told", calls > 10, true);
    }

    static void callsAreTold(String readme) {
        promise("README.md, the calls");
        for (Method m : ClockedFlows.class.getDeclaredMethods()) {
            if (Modifier.isPublic(m.getModifiers())) {
                Matcher row = Pattern.compile("\\| `" + m.getName() + "\\(([^)]*)\\)` \\|").matcher(readme);
                boolean told = row.find();
                due(m.getName() + " is told", told, true);
                int count = !told || row.group(1).isEmpty() ? 0 : row.group(1).split(", ").length;
                due(m.getName() + " with its parameters", count, m.getParameterCount());
            }
        }
    }

    static void testsAreTold(String readme) throws IOException {
        promise("README.md, the tests");
        try (Stream<Path> files = Files.list(Path.of("src/test/java"))) {
            List<String> names = files.map(f -> f.getFileName().toString().replace(".java", "")).collect(Collectors.toList());
            for (String name : names) {
                due(name + " is told", readme.contains("`" + name + "`"), true);
            }
        }
        for (String what : new String[] {".ci/run", "../shared/tests", "javac", "../shared/DOC.md", "../shared/LANGUAGE.md"}) {
            due(what + " is told", readme.contains("`" + what + "`"), true);
        }
    }

    public static void main(String[] args) throws Exception {
        String readme = Files.readString(Path.of("README.md"));
        exampleHolds(readme);
        callsAreTold(readme);
        testsAreTold(readme);
        end();
    }
}
