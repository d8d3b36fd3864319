import java.lang.reflect.Constructor;
import java.lang.reflect.Field;
import java.lang.reflect.Method;
import java.lang.reflect.Modifier;
import java.util.Arrays;
import java.util.TreeSet;

/** The public face of the document, and no other open member. */
public final class FaceTest {
    private static final Check check = new Check();

    private static final String[] FACE = {
        "int as(int,int)", "int ashore(int)", "int beds(int)", "int book(int)", "int can(int,int,int)",
        "int change(int)", "int copy(int,int,int,int,int)", "int count(int)", "int dark()", "int day(int,int)",
        "int days(int)", "int enough(int)", "int feed(int,int)", "int heard(int,int)", "int image()",
        "int keeper(int)", "int kind(int,int)", "int knows(int,int)", "int lays(int)", "int light(int,int)",
        "int meet(int,int)", "int now(int)", "int of(int,int)", "int oil(int)", "int on(int,int,int)",
        "int read(int,int)", "int relief()", "int rock(int)", "int sea(int,int)", "int set(int,int,int)",
        "int sheet(int,int,int)", "int status(int)", "int storm()", "int tear()", "int text()", "int turn(int,int)",
        "int undo()", "int wipe()", "long write(int,int,long)"};

    public static void main(String[] args) {
        face();
        check.end();
    }

    private static void face() {
        TreeSet<String> open = new TreeSet<>();
        TreeSet<String> openNames = new TreeSet<>();
        for (Method m : ReliefGales.class.getDeclaredMethods()) {
            if (!Modifier.isPrivate(m.getModifiers())) {
                check.is("1 " + m + " is public", m.getModifiers(), Modifier.PUBLIC);
                openNames.add(m.getName());
                open.add(m.getReturnType() + " " + m.getName()
                    + Arrays.toString(m.getParameterTypes()).replace("[", "(").replace("]", ")").replace(" ", ""));
            }
        }
        check.is("1 the methods", open, new TreeSet<>(Arrays.asList(FACE)));
        check.is("1 the class", ReliefGales.class.getModifiers(), Modifier.PUBLIC | Modifier.FINAL);
        Constructor<?>[] makers = ReliefGales.class.getDeclaredConstructors();
        check.is("1 one constructor", makers.length, 1);
        check.is("1 it is public", makers[0].toString(), "public ReliefGales()");
        for (Field f : ReliefGales.class.getDeclaredFields()) {
            check.is("1 " + f + " is private", Modifier.isPrivate(f.getModifiers()), true);
        }
        for (Method m : ReliefGales.class.getDeclaredMethods()) {
            boolean isPrivate = Modifier.isPrivate(m.getModifiers());
            check.is("1 " + m + " bears a public name", isPrivate && openNames.contains(m.getName()), false);
        }
        for (Class<?> inside : ReliefGales.class.getDeclaredClasses()) {
            for (Method m : inside.getDeclaredMethods()) {
                check.is("1 " + m + " bears a public name", openNames.contains(m.getName()), false);
            }
        }
    }
}
