import java.lang.reflect.Constructor;
import java.lang.reflect.Field;
import java.lang.reflect.Method;
import java.lang.reflect.Modifier;
import java.nio.file.Files;
import java.nio.file.Path;
import java.util.Arrays;
import java.util.TreeSet;
import java.util.regex.Matcher;
import java.util.regex.Pattern;

/** The public face of the document and the rules of LANGUAGE.md that can be seen from outside. */
public final class FaceTest {
    private static final Check check = new Check();

    private static final String[] FACE = {
        "int as(int,int)", "int ashore(int)", "int beds(int)", "int book(int)", "int can(int,int,int)",
        "int change(int)", "int copy(int,int,int,int,int)", "int count(int)", "int dark()", "int day(int,int)",
        "int days(int)", "int enough(int)", "int feed(int,int)", "int heard(int,int)", "int image()",
        "int keeper(int)", "int kind(int,int)", "int knows(int,int)", "int lays(int)", "int light(int,int)",
        "int meet(int,int)", "int now(int)", "int of(int,int)", "int oil(int)", "int on(int,int,int)",
        "int read(int,int)", "int relief()", "int rock(int)", "int sea(int,int)", "int set(int,int,int)",
        "int sheet(int,int,int)", "int status(int)", "int storm()", "int tear()", "int text()", "int turn(int,int)",
        "int undo()", "int wipe()", "long write(int,int,long)"};

    public static void main(String[] args) throws Exception {
        face();
        members(ReliefGales.class);
        for (Class<?> inside : ReliefGales.class.getDeclaredClasses()) {
            check.is("2 " + inside + " is static", Modifier.isStatic(inside.getModifiers()), true);
            members(inside);
        }
        source(Files.readString(Path.of("src/main/java/ReliefGales.java")));
        check.end();
    }

    private static void face() {
        TreeSet<String> open = new TreeSet<>();
        TreeSet<String> openNames = new TreeSet<>();
        for (Method m : ReliefGales.class.getDeclaredMethods()) {
            if (!Modifier.isPrivate(m.getModifiers())) {
                check.is("1 " + m + " is public", m.getModifiers(), Modifier.PUBLIC);
                openNames.add(m.getName());
                open.add(m.getReturnType() + " " + m.getName()
                    + Arrays.toString(m.getParameterTypes()).replace("[", "(").replace("]", ")").replace(" ", ""));
            }
        }
        check.is("1 the methods", open, new TreeSet<>(Arrays.asList(FACE)));
        check.is("1 the class", ReliefGales.class.getModifiers(), Modifier.PUBLIC | Modifier.FINAL);
        Constructor<?>[] makers = ReliefGales.class.getDeclaredConstructors();
        check.is("1 one constructor", makers.length, 1);
        check.is("1 it is public", makers[0].toString(), "public ReliefGales()");
        for (Field f : ReliefGales.class.getDeclaredFields()) {
            check.is("1 " + f + " is private", Modifier.isPrivate(f.getModifiers()), true);
        }
        for (Method m : ReliefGales.class.getDeclaredMethods()) {
            boolean isPrivate = Modifier.isPrivate(m.getModifiers());
            check.is("1 " + m + " bears a public name", isPrivate && openNames.contains(m.getName()), false);
        }
        for (Class<?> inside : ReliefGales.class.getDeclaredClasses()) {
            for (Method m : inside.getDeclaredMethods()) {
                check.is("1 " + m + " bears a public name", openNames.contains(m.getName()), false);
            }
        }
    }

    private static void members(Class<?> of) {
        int fields = 0;
        for (Field f : of.getDeclaredFields()) {
            boolean isStatic = Modifier.isStatic(f.getModifiers());
            check.is("5 " + f + " is final if static", !isStatic || Modifier.isFinal(f.getModifiers()), true);
            fields += isStatic ? 0 : 1;
        }
        check.is("11 fields of " + of, fields <= 20, true);
        for (Method m : of.getDeclaredMethods()) {
            check.is("11 parameters of " + m, m.getParameterCount() <= 7, true);
        }
    }

    /** No word that the rules leave out, comments and texts aside. */
    private static void source(String text) {
        String code = text.replaceAll("(?s)/\\*.*?\\*/", " ").replaceAll("//[^\n]*", " ")
            .replaceAll("\"[^\"\n]*\"", "\"\"");
        Matcher words = Pattern.compile("\\b(throw|throws|try|catch|synchronized|assert|protected|Exception|Exact"
            + "|Object|Random|Thread|nanoTime|currentTimeMillis|toString|hashCode|package)\\b|->|::|Exact\\(").matcher(code);
        check.is("6 a word that is left out", words.find() ? words.group() : "", "");
        Matcher imports = Pattern.compile("import ([^;]*);").matcher(code);
        while (imports.find()) {
            check.is("4 the library", imports.group(1), "java.util.Arrays");
        }
        check.is("3 signs of the source", text.chars().allMatch(c -> c == '\n' || c >= 32 && c < 127), true);
        check.is("2 some twelve classes", ReliefGales.class.getDeclaredClasses().length <= 11, true);
    }
}
