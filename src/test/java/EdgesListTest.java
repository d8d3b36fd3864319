import java.nio.file.Files;
import java.nio.file.Path;
import java.util.Arrays;
import java.util.regex.Matcher;
import java.util.regex.Pattern;

/** EDGES.md names only tests that are there, and some for each promise of the document. */
public final class EdgesListTest {
    private static final Check check = new Check();

    public static void main(String[] args) throws Exception {
        String list = Files.readString(Path.of("EDGES.md"));
        Matcher tests = Pattern.compile("`(\\w+Test)\\.(\\w+)`").matcher(list);
        while (tests.find()) {
            check.is("EDGES.md names " + tests.group(), isThere(tests.group(1), tests.group(2)), true);
        }
        for (int promise = 1; promise <= 40; promise++) {
            Pattern row = Pattern.compile("^\\| " + promise + " \\|.*`\\w+Test\\.\\w+`", Pattern.MULTILINE);
            check.is("EDGES.md has promise " + promise, row.matcher(list).find(), true);
        }
        check.end();
    }

    private static boolean isThere(String test, String method) {
        try {
            Class<?> of = Class.forName(test, false, EdgesListTest.class.getClassLoader());
            return Arrays.stream(of.getDeclaredMethods()).anyMatch(m -> m.getName().equals(method));
        } catch (ClassNotFoundException e) {
            return false;
        }
    }
}
