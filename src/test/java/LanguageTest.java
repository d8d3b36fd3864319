import java.nio.file.Files;
import java.nio.file.Path;
import java.util.TreeSet;

/** The class keeps to LANGUAGE.md, as far as its source shows it; and Rules sees what does not. */
public final class LanguageTest {
    private static final Check check = new Check();

    public static void main(String[] args) throws Exception {
        check.is("what the class breaks", Rules.broken(Files.readString(Path.of("src/main/java/ReliefGales.java"))).toString(), "[]");
        check.is("what a plain class breaks", Rules.broken(around("")).toString(), "[]");
        face();
        classesInside();
        typesAndLibrary();
        statics();
        leftOut();
        neverThrows();
        recursionAndLoops();
        sizes();
        made();
        check.end();
    }

    private static String around(String member) {
        return "public final class ReliefGales {\n    public ReliefGales() {\n    }\n" + member + "\n}\n";
    }

    /** A member that breaks this rule and no other. */
    private static void breaks(int rule, String member) throws Exception {
        whole(rule, around(member));
    }

    private static void whole(int rule, String source) throws Exception {
        TreeSet<String> rules = new TreeSet<>();
        for (String line : Rules.broken(source)) {
            rules.add(line.substring(0, line.indexOf(' ')));
        }
        check.is("what is broken by " + source, rules.toString(), "[" + rule + "]");
    }

    private static void face() throws Exception {
        breaks(1, "int a;");
        breaks(1, "protected int a;");
        breaks(1, "public int a;");
        breaks(1, "int a() { return 1; }");
        breaks(1, "protected int a() { return 1; }");
        breaks(1, "public int a() { return 1; } private int a(int b) { return b; }");
        breaks(1, "public int a() { return 1; } private static final class B { int a() { return 1; } }");
        breaks(1, "public static final class B { }");
        whole(1, "final class ReliefGales { public ReliefGales() { } }");
        whole(1, "public class ReliefGales { public ReliefGales() { } }");
        whole(1, around("") + "final class Other { }");
    }

    private static void classesInside() throws Exception {
        breaks(2, "private final class B { }");
        breaks(2, "private int a() { class B { } return 1; }");
    }

    private static void typesAndLibrary() throws Exception {
        breaks(3, "private Object a;");
        breaks(3, "private int[][][] a;");
        breaks(3, "private Integer a() { return 1; }");
        breaks(3, "private String[] a;");
        breaks(3, "// " + (char) 233);
        breaks(4, "private int a() { return Math.addExact(1, 2); }");
        breaks(4, "private int a() { return (int) System.nanoTime(); }");
        breaks(4, "private int a() { System.out.println(); return 1; }");
        breaks(4, "private boolean a(String b) { return \"\\u00e9\".equals(b); }");
        whole(4, "import java.util.Random;\n" + around(""));
    }

    private static void statics() throws Exception {
        breaks(5, "private static int a = 1;");
        breaks(5, "private static final int A = Math.min(1, 2);");
        breaks(5, "private static final int[] A = new int[3];");
        breaks(5, "private static final boolean[] A = {true};");
        breaks(5, "private static final int[] A = {1}; private void b() { A[0] = 2; }");
        breaks(5, "private static final int[] A = {1}; private void b() { A[0] += 2; }");
        breaks(5, "private static final int[] A = {1}; private void b() { A[0]++; }");
        breaks(5, "private int a; { a = 1; }");
        breaks(5, "static { }");
    }

    private static void leftOut() throws Exception {
        breaks(6, "private int a(int b) { assert b > 0; return b; }");
        breaks(6, "private int a(int b) { synchronized (this) { return b; } }");
        breaks(6, "private synchronized int a(int b) { return b; }");
        breaks(6, "private int a(int b) { try { return b; } finally { b++; } }");
        breaks(6, "private boolean a(String b, String c) { return b == c; }");
        breaks(6, "private static final class B { } private boolean a(B b) { return b instanceof B; }");
        breaks(6, "private static final class B { } private B a(B b) { return (B) b; }");
        breaks(6, "public String toString() { return \"\"; }");
        check.is("6 throw", Rules.broken(around("private int a() { throw new RuntimeException(); }")).toString()
            .contains("6 throw"), true);
        check.is("2 a lambda", Rules.broken(around("private Runnable a = () -> { };")).toString()
            .contains("2 a lambda"), true);
        check.is("2 a method reference", Rules.broken(around("private Runnable a = System::gc;")).toString()
            .contains("2 a method reference"), true);
    }

    private static void neverThrows() throws Exception {
        breaks(7, "private int a(int b) { return 1 / b; }");
        breaks(7, "private int a(int b) { return 1 % b; }");
        breaks(7, "private int a(int b) { b /= b; return b; }");
        breaks(7, "private static final int B = 3; private int a() { return 1 / (B - 3); }");
        breaks(7, "private final int b = 2; private static final int C = -1; private final int[] a = new int[C];");
        check.is("7 a divisor that is written out", Rules.broken(around("private int a(int b) { return b / 2 % 3; }")).toString(), "[]");
    }

    private static void recursionAndLoops() throws Exception {
        breaks(8, "private int a(int b) { return a(b); }");
        breaks(8, "private int a(int b) { return c(b); } private int c(int b) { return a(b); }");
        breaks(9, "private void a() { for (;;) { } }".replace(";;", "int i = 0; ; i++"));
        breaks(9, "private void a() { for (int i = 0; i < 3; ) { } }");
        breaks(9, "private void a() { while (true) { } }");
        breaks(9, "private void a(boolean b) { while (b) { } }");
        breaks(9, "private void a(boolean b, int c) { do { } while (b || c < 3); }");
        breaks(10, "private String a(String b) { return b + b; }");
        breaks(10, "private String a(String b) { b += b; return b; }");
    }

    private static void sizes() throws Exception {
        breaks(11, "private int a(int b, int c, int d, int e, int f, int g, int h, int i) { return b; }");
        breaks(11, "private int a() {\n" + "\n".repeat(58) + "return 1;\n}");
        StringBuilder fields = new StringBuilder();
        for (int i = 0; i < 21; i++) {
            fields.append("private int a").append(i).append("; ");
        }
        breaks(11, fields.toString());
        StringBuilder classes = new StringBuilder();
        for (int i = 0; i < 12; i++) {
            classes.append("private static final class C").append(i).append(" { } ");
        }
        breaks(11, classes.toString());
        breaks(11, chain(9));
        check.is("11 eight deep", Rules.broken(around(chain(8))).toString(), "[]");
    }

    private static String chain(int deep) {
        StringBuilder chain = new StringBuilder();
        for (int i = 1; i < deep; i++) {
            chain.append("private int a").append(i).append("() { return a").append(i + 1).append("(); } ");
        }
        return chain.append("private int a").append(deep).append("() { return 1; }").toString();
    }

    private static void made() throws Exception {
        breaks(12, "private int[] a() { return new int[3]; }");
        breaks(12, "private static final class B { } private B a() { return new B(); }");
        breaks(12, "private static class B { int c; B() { d(); } void d() { c = 1; } }");
    }
}
