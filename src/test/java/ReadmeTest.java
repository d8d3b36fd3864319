import java.io.IOException;
import java.lang.reflect.Method;
import java.lang.reflect.Modifier;
import java.net.URL;
import java.net.URLClassLoader;
import java.nio.file.Files;
import java.nio.file.Path;
import java.util.ArrayList;
import java.util.Arrays;
import java.util.Comparator;
import java.util.List;
import java.util.TreeMap;
import java.util.TreeSet;
import java.util.regex.MatchResult;
import java.util.regex.Matcher;
import java.util.regex.Pattern;
import java.util.stream.Stream;
import javax.tools.ToolProvider;

/** README.md is true of what stands: its example, its findings, its calls, its list of tests. */
public final class ReadmeTest {
    private static final Check check = new Check();

    private static final List<String> FINDINGS = List.of("BEYOND", "FULL", "KIND", "NONE", "STATE", "MISSING", "SIZE");

    public static void main(String[] args) throws Exception {
        String readme = Files.readString(Path.of("README.md"));
        example(readme);
        textExample(readme);
        findings(readme);
        calls(readme);
        findingsOfCalls(readme);
        tests(readme);
        check.end();
    }

    private static List<MatchResult> all(String pattern, String text) {
        return Pattern.compile(pattern, Pattern.MULTILINE).matcher(text).results().toList();
    }

    /** Each call of the example, made in its order, answers what stands behind it. */
    private static void example(String readme) throws Exception {
        Matcher block = Pattern.compile("(?s)```java\n(.*?)```").matcher(readme);
        check.is("there is an example", block.find(), true);
        List<MatchResult> lines = all("^(x\\.\\w+\\(.*?\\)); +// (-?[0-9]+): .+$", block.group(1));
        check.is("each line but the first is a call with its answer",
            lines.size(), block.group(1).lines().count() - 1);
        StringBuilder code = new StringBuilder("public final class ReadmeExample {\n"
            + "  public static long[] answers() {\n    ReliefGales x = new ReliefGales();\n    return new long[] {\n");
        lines.forEach(line -> code.append("      ").append(line.group(1)).append(",\n"));
        long[] answers = run(code.append("    };\n  }\n}\n").toString());
        for (int i = 0; i < answers.length; i++) {
            check.is("example " + lines.get(i).group(1), answers[i], Long.parseLong(lines.get(i).group(2)));
        }
    }

    private static long[] run(String code) throws Exception {
        Path folder = Files.createTempDirectory("readme");
        try {
            Path file = Files.writeString(folder.resolve("ReadmeExample.java"), code);
            int failed = ToolProvider.getSystemJavaCompiler().run(null, null, null, "-cp",
                System.getProperty("java.class.path"), "-d", folder.toString(), file.toString());
            check.is("the example compiles", failed, 0);
            try (URLClassLoader loader = new URLClassLoader(new URL[] {folder.toUri().toURL()})) {
                return (long[]) loader.loadClass("ReadmeExample").getMethod("answers").invoke(null);
            }
        } finally {
            remove(folder);
        }
    }

    private static void remove(Path folder) throws IOException {
        try (Stream<Path> files = Files.walk(folder)) {
            for (Path file : files.sorted(Comparator.reverseOrder()).toList()) {
                Files.delete(file);
            }
        }
    }

    private static void textExample(String readme) {
        Matcher text = Pattern.compile("A text is, for example, `([^`]*)`").matcher(readme);
        check.is("there is a text", text.find(), true);
        check.is("its ITEMS come", Check.text(new ReliefGales(), text.group(1)), 5);
    }

    private static void findings(String readme) {
        List<String> rows = new ArrayList<>();
        for (MatchResult row : all("^\\| ([A-Z]+) \\| (-[0-9]+) \\| ([0-9]) \\|", readme)) {
            rows.add(row.group(1) + row.group(2) + " " + row.group(3));
        }
        List<String> due = new ArrayList<>();
        for (int i = 0; i < FINDINGS.size(); i++) {
            due.add(FINDINGS.get(i) + (Check.BEYOND - i) + " " + i);
        }
        check.is("the findings", rows, due);
    }

    private static TreeMap<String, List<String>> rowsOfCalls(String readme) {
        TreeMap<String, List<String>> rows = new TreeMap<>();
        for (MatchResult row : all("^\\| `(\\w+\\([a-z, ]*\\))` \\|.*\\|([A-Z, ]*)\\|$", readme)) {
            List<String> told = row.group(2).isBlank() ? List.of() : List.of(row.group(2).strip().split(", "));
            check.is("one row of " + row.group(1), rows.put(row.group(1), told) == null, true);
        }
        return rows;
    }

    private static void calls(String readme) {
        TreeSet<String> told = new TreeSet<>();
        for (String call : rowsOfCalls(readme).keySet()) {
            String given = call.substring(call.indexOf('(') + 1, call.length() - 1);
            told.add(call.substring(0, call.indexOf('(')) + " " + (given.isEmpty() ? 0 : given.split(",").length));
        }
        TreeSet<String> due = new TreeSet<>();
        for (Method m : ReliefGales.class.getDeclaredMethods()) {
            if (Modifier.isPublic(m.getModifiers())) {
                due.add(m.getName() + " " + m.getParameterCount());
            }
        }
        check.is("the calls", told, due);
    }

    /** A call tells the findings that stand in its row and no other, whatever it is asked. */
    private static void findingsOfCalls(String readme) throws Exception {
        TreeMap<String, List<String>> rows = rowsOfCalls(readme);
        for (String call : rows.keySet()) {
            String name = call.substring(0, call.indexOf('('));
            for (Method m : ReliefGales.class.getMethods()) {
                if (m.getName().equals(name)) {
                    check.is("findings of " + call, answered(m), new TreeSet<>(rows.get(call)));
                }
            }
        }
    }

    private static TreeSet<String> answered(Method call) throws Exception {
        int[] tried = {Integer.MIN_VALUE, -1, 0, 1, 2, 3, 4, 8, 16, 41, 60, 64, 201, 10000};
        TreeSet<String> findings = new TreeSet<>();
        int n = call.getParameterCount();
        int[] few = n > 3 ? new int[] {-1, 0, 1, 2, 3, 4} : tried;
        for (int light = 0; light < 4; light++) {
            int draws = (int) Math.pow(few.length, n);
            for (int draw = 0; draw < draws; draw++) {
                Object[] given = new Object[n];
                int rest = draw;
                for (int i = 0; i < n; i++) {
                    boolean isLong = call.getParameterTypes()[i] == long.class;
                    given[i] = isLong ? (Object) (long) few[rest % few.length] : (Object) few[rest % few.length];
                    rest /= few.length;
                }
                long answer = ((Number) call.invoke(lightToAsk(light), given)).longValue();
                long which = Check.BEYOND - answer;
                if (which >= 0 && which < FINDINGS.size()) {
                    findings.add(FINDINGS.get((int) which));
                }
            }
        }
        return findings;
    }

    /** One with some of all, an empty one, a full one on its last DAY, one with sheets and nobody ashore. */
    private static ReliefGales lightToAsk(int which) {
        if (which == 0) {
            return Check.some();
        }
        if (which == 1) {
            return new ReliefGales();
        }
        if (which == 2) {
            ReliefGales full = Check.with(0, 1, 2, 3, 4, 5, 0, 1);
            Check.feedByFours(full, "oil 7" + " ".repeat(115));
            Check.goToDay(full, 9999);
            return full;
        }
        ReliefGales x = Check.with(0, 3, 3, 3, 3, 3, 3, 4);
        Check.calm(x);
        for (int k = 0; k < 8; k++) {
            x.set(k, 1, 1);
        }
        for (int s = 0; s < 4; s++) {
            x.sheet(s, s < 2 ? 8 : 64, 3 * s);
        }
        return x;
    }

    private static void tests(String readme) throws Exception {
        TreeSet<String> told = new TreeSet<>();
        for (MatchResult row : all("^\\| (\\w+Test) \\|", readme)) {
            told.add(row.group(1) + ".java");
        }
        String[] files = Path.of("src/test/java").toFile().list((folder, name) -> name.endsWith("Test.java"));
        check.is("the tests", told, new TreeSet<>(Arrays.asList(files)));
    }
}
