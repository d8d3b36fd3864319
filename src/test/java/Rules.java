import com.sun.source.tree.ArrayAccessTree;
import com.sun.source.tree.AssertTree;
import com.sun.source.tree.AssignmentTree;
import com.sun.source.tree.BinaryTree;
import com.sun.source.tree.BlockTree;
import com.sun.source.tree.ClassTree;
import com.sun.source.tree.CompilationUnitTree;
import com.sun.source.tree.CompoundAssignmentTree;
import com.sun.source.tree.DoWhileLoopTree;
import com.sun.source.tree.ExpressionTree;
import com.sun.source.tree.ForLoopTree;
import com.sun.source.tree.ImportTree;
import com.sun.source.tree.InstanceOfTree;
import com.sun.source.tree.LambdaExpressionTree;
import com.sun.source.tree.LiteralTree;
import com.sun.source.tree.MemberReferenceTree;
import com.sun.source.tree.MethodInvocationTree;
import com.sun.source.tree.MethodTree;
import com.sun.source.tree.NewArrayTree;
import com.sun.source.tree.NewClassTree;
import com.sun.source.tree.SynchronizedTree;
import com.sun.source.tree.ThrowTree;
import com.sun.source.tree.Tree;
import com.sun.source.tree.TryTree;
import com.sun.source.tree.TypeCastTree;
import com.sun.source.tree.UnaryTree;
import com.sun.source.tree.VariableTree;
import com.sun.source.tree.WhileLoopTree;
import com.sun.source.util.JavacTask;
import com.sun.source.util.TreePath;
import com.sun.source.util.TreePathScanner;
import com.sun.source.util.Trees;
import java.io.IOException;
import java.net.URI;
import java.util.ArrayList;
import java.util.List;
import java.util.Map;
import java.util.Set;
import java.util.TreeMap;
import java.util.TreeSet;
import javax.lang.model.element.Element;
import javax.lang.model.element.ElementKind;
import javax.lang.model.element.ExecutableElement;
import javax.lang.model.element.Modifier;
import javax.lang.model.element.TypeElement;
import javax.lang.model.element.VariableElement;
import javax.lang.model.type.ArrayType;
import javax.lang.model.type.TypeKind;
import javax.lang.model.type.TypeMirror;
import javax.tools.JavaCompiler;
import javax.tools.JavaFileObject;
import javax.tools.SimpleJavaFileObject;
import javax.tools.ToolProvider;

/**
 * The rules of LANGUAGE.md, asked of a source by the compiler's own tree of it. Where a rule leaves
 * more than the class uses (lists, recursion, casts, objects made by calls), only what it uses is let
 * through, so that the rest is looked at by hand before it comes in.
 */
final class Rules extends TreePathScanner<Void, Void> {
    private static final int MOST_LINES = 60;
    private static final int MOST_PARAMETERS = 7;
    private static final int MOST_FIELDS = 20;
    private static final int MOST_CLASSES = 12;
    private static final int MOST_DEPTH = 8;

    private static final Set<String> LIBRARY = Set.of(
        "java.lang.String.length", "java.lang.String.charAt", "java.lang.String.isEmpty", "java.lang.String.equals",
        "java.lang.Integer.bitCount", "java.lang.Integer.compare", "java.lang.Long.bitCount", "java.lang.Long.compare",
        "java.lang.Math.min", "java.lang.Math.max", "java.lang.Math.abs", "java.lang.Math.floorMod",
        "java.lang.Math.floorDiv", "java.lang.System.arraycopy", "java.util.Arrays.fill", "java.util.Arrays.copyOf",
        "java.util.Arrays.copyOfRange");
    private static final Set<TypeKind> NUMBERS = Set.of(TypeKind.INT, TypeKind.LONG, TypeKind.SHORT, TypeKind.BYTE,
        TypeKind.CHAR, TypeKind.BOOLEAN, TypeKind.DOUBLE, TypeKind.FLOAT);

    private final Trees trees;
    private final CompilationUnitTree unit;
    private final TreeSet<String> broken = new TreeSet<>();
    private final Map<String, Set<String>> calls = new TreeMap<>();
    private final Set<String> openNames = new TreeSet<>();
    private final Set<String> privateNames = new TreeSet<>();
    private int classes = 0;
    private String method = "";
    // Objects may be made here: in a constructor or for a field.
    private boolean making = true;

    private Rules(Trees trees, CompilationUnitTree unit) {
        this.trees = trees;
        this.unit = unit;
    }

    /** A line for each rule that is broken, the rule's number first; none if all are kept. */
    static TreeSet<String> broken(String source) throws IOException {
        JavaFileObject file = new SimpleJavaFileObject(URI.create("string:///ReliefGales.java"), JavaFileObject.Kind.SOURCE) {
            @Override public CharSequence getCharContent(boolean ignoreErrors) {
                return source;
            }
        };
        JavaCompiler compiler = ToolProvider.getSystemJavaCompiler();
        JavacTask task = (JavacTask) compiler.getTask(null, null, d -> { }, List.of("--release", "17"), null, List.of(file));
        CompilationUnitTree unit = task.parse().iterator().next();
        task.analyze();
        Rules rules = new Rules(Trees.instance(task), unit);
        rules.signs(source);
        rules.scan(unit, null);
        rules.whole();
        return rules.broken;
    }

    private void breaks(int rule, String what, Tree where) {
        long at = where == null ? 0 : trees.getSourcePositions().getStartPosition(unit, where);
        broken.add(rule + " " + what + ", line " + unit.getLineMap().getLineNumber(Math.max(0, at)));
    }

    private void signs(String source) {
        if (!source.chars().allMatch(c -> c == '\n' || c >= 32 && c < 127)) {
            breaks(3, "a sign that is none of 32 to 126", null);
        }
    }

    // ---- what can only be seen of the whole

    private void whole() {
        if (classes > MOST_CLASSES) {
            breaks(11, classes + " classes", null);
        }
        for (String name : privateNames) {
            if (openNames.contains(name)) {
                breaks(1, "a private method with the public name " + name, null);
            }
        }
        for (String from : calls.keySet()) {
            depth(from, new ArrayList<>());
        }
    }

    /** How many calls stand open at once from here on, the library's counted too. */
    private int depth(String from, List<String> open) {
        if (open.contains(from)) {
            breaks(8, "a recursion through " + from, null);
            return 0;
        }
        open.add(from);
        int deepest = 0;
        for (String to : calls.getOrDefault(from, Set.of())) {
            deepest = Math.max(deepest, depth(to, open));
        }
        open.remove(from);
        if (deepest + 1 > MOST_DEPTH) {
            breaks(11, "calls too deep from " + from, null);
        }
        return deepest + 1;
    }

    // ---- classes and members

    @Override public Void visitImport(ImportTree tree, Void none) {
        if (tree.isStatic() || !tree.getQualifiedIdentifier().toString().equals("java.util.Arrays")) {
            breaks(4, "import " + tree.getQualifiedIdentifier(), tree);
        }
        return null;
    }

    @Override public Void visitClass(ClassTree tree, Void none) {
        classes++;
        Tree around = getCurrentPath().getParentPath().getLeaf();
        Set<Modifier> flags = tree.getModifiers().getFlags();
        if (around instanceof CompilationUnitTree) {
            if (!flags.equals(Set.of(Modifier.PUBLIC, Modifier.FINAL)) || !tree.getSimpleName().contentEquals("ReliefGales")) {
                breaks(1, "another class than public final ReliefGales", tree);
            }
        } else if (!(around instanceof ClassTree) || !flags.contains(Modifier.STATIC)) {
            breaks(2, "a class inside that isn't static", tree);
        } else if (flags.contains(Modifier.PUBLIC) || flags.contains(Modifier.PROTECTED)) {
            breaks(1, "an open class inside", tree);
        }
        long fields = tree.getMembers().stream()
            .filter(m -> m instanceof VariableTree v && !v.getModifiers().getFlags().contains(Modifier.STATIC)).count();
        if (fields > MOST_FIELDS) {
            breaks(11, fields + " fields", tree);
        }
        return super.visitClass(tree, none);
    }

    @Override public Void visitBlock(BlockTree tree, Void none) {
        if (getCurrentPath().getParentPath().getLeaf() instanceof ClassTree) {
            breaks(5, "an initialiser block", tree);
        }
        return super.visitBlock(tree, none);
    }

    @Override public Void visitMethod(MethodTree tree, Void none) {
        ExecutableElement element = (ExecutableElement) trees.getElement(getCurrentPath());
        Set<Modifier> flags = element.getModifiers();
        boolean isMaker = element.getKind() == ElementKind.CONSTRUCTOR;
        if (isOutermost(element.getEnclosingElement())) {
            faceMember(tree, flags);
            (flags.contains(Modifier.PRIVATE) ? privateNames : openNames).add(element.getSimpleName().toString());
        } else if (!isMaker) {
            privateNames.add(element.getSimpleName().toString());
        }
        if (flags.contains(Modifier.SYNCHRONIZED) || flags.contains(Modifier.NATIVE) || !tree.getThrows().isEmpty()) {
            breaks(6, "a method that is synchronized, native or throws", tree);
        }
        if (tree.getParameters().size() > MOST_PARAMETERS) {
            breaks(11, tree.getParameters().size() + " parameters", tree);
        }
        if (lines(tree) > MOST_LINES) {
            breaks(11, lines(tree) + " lines", tree);
        }
        if (!isMaker) {
            type(element.getReturnType(), tree);
            if (Set.of("equals", "hashCode", "toString", "finalize").contains(tree.getName().toString())) {
                breaks(6, "a method " + tree.getName(), tree);
            }
        }
        method = named(element);
        calls.computeIfAbsent(method, m -> new TreeSet<>());
        making = isMaker;
        super.visitMethod(tree, none);
        making = true;
        method = "";
        return null;
    }

    private void faceMember(Tree tree, Set<Modifier> flags) {
        if (!flags.contains(Modifier.PUBLIC) && !flags.contains(Modifier.PRIVATE)) {
            breaks(1, "a member that is neither public nor private", tree);
        }
    }

    private static boolean isOutermost(Element element) {
        return element.getEnclosingElement().getKind() == ElementKind.PACKAGE;
    }

    private long lines(Tree tree) {
        long from = trees.getSourcePositions().getStartPosition(unit, tree);
        long to = trees.getSourcePositions().getEndPosition(unit, tree);
        return unit.getLineMap().getLineNumber(Math.max(from, to)) - unit.getLineMap().getLineNumber(from) + 1;
    }

    @Override public Void visitVariable(VariableTree tree, Void none) {
        VariableElement element = (VariableElement) trees.getElement(getCurrentPath());
        if (element != null) {
            type(element.asType(), tree);
            if (element.getKind() == ElementKind.FIELD) {
                field(element, tree);
            }
        }
        return super.visitVariable(tree, none);
    }

    private void field(VariableElement element, VariableTree tree) {
        Set<Modifier> flags = element.getModifiers();
        if (isOutermost(element.getEnclosingElement()) && !flags.contains(Modifier.PRIVATE)) {
            breaks(1, "a field that isn't private", tree);
        }
        if (!flags.contains(Modifier.STATIC)) {
            return;
        }
        if (!flags.contains(Modifier.FINAL)) {
            breaks(5, "a static field that isn't final", tree);
        }
        boolean isRow = element.asType() instanceof ArrayType row
            && Set.of("int", "long", "char", "byte").contains(row.getComponentType().toString())
            && tree.getInitializer() instanceof NewArrayTree made && made.getInitializers() != null;
        if (!isRow && element.getConstantValue() == null) {
            breaks(5, "a static field that is no constant", tree);
        }
    }

    private void type(TypeMirror type, Tree where) {
        boolean isRow = type instanceof ArrayType row && isPart(row.getComponentType());
        boolean isTable = type instanceof ArrayType rows && rows.getComponentType() instanceof ArrayType row
            && NUMBERS.contains(row.getComponentType().getKind());
        if (!isRow && !isTable && !isPart(type) && type.getKind() != TypeKind.VOID && !type.toString().equals("java.lang.String")) {
            breaks(3, "type " + type, where);
        }
    }

    private static boolean isPart(TypeMirror type) {
        return NUMBERS.contains(type.getKind()) || type.toString().startsWith("ReliefGales");
    }

    // ---- what may not stand at all

    @Override public Void visitLambdaExpression(LambdaExpressionTree tree, Void none) {
        breaks(2, "a lambda", tree);
        return null;
    }

    @Override public Void visitMemberReference(MemberReferenceTree tree, Void none) {
        breaks(2, "a method reference", tree);
        return null;
    }

    @Override public Void visitThrow(ThrowTree tree, Void none) {
        breaks(6, "throw", tree);
        return super.visitThrow(tree, none);
    }

    @Override public Void visitTry(TryTree tree, Void none) {
        breaks(6, "try", tree);
        return super.visitTry(tree, none);
    }

    @Override public Void visitSynchronized(SynchronizedTree tree, Void none) {
        breaks(6, "synchronized", tree);
        return super.visitSynchronized(tree, none);
    }

    @Override public Void visitAssert(AssertTree tree, Void none) {
        breaks(6, "assert", tree);
        return super.visitAssert(tree, none);
    }

    @Override public Void visitInstanceOf(InstanceOfTree tree, Void none) {
        breaks(6, "instanceof", tree);
        return super.visitInstanceOf(tree, none);
    }

    @Override public Void visitTypeCast(TypeCastTree tree, Void none) {
        if (!typeOf(tree).getKind().isPrimitive()) {
            breaks(6, "a cast of a reference", tree);
        }
        return super.visitTypeCast(tree, none);
    }

    @Override public Void visitLiteral(LiteralTree tree, Void none) {
        if (tree.getValue() instanceof String text && !text.chars().allMatch(c -> c >= 1 && c <= 127)) {
            breaks(4, "a text with other signs than 1 to 127", tree);
        }
        return super.visitLiteral(tree, none);
    }

    // ---- sums, rows, loops

    @Override public Void visitBinary(BinaryTree tree, Void none) {
        switch (tree.getKind()) {
            case DIVIDE, REMAINDER -> divisor(tree.getRightOperand());
            case EQUAL_TO, NOT_EQUAL_TO -> same(tree);
            case PLUS -> joined(tree);
            default -> { }
        }
        return super.visitBinary(tree, none);
    }

    @Override public Void visitCompoundAssignment(CompoundAssignmentTree tree, Void none) {
        switch (tree.getKind()) {
            case DIVIDE_ASSIGNMENT, REMAINDER_ASSIGNMENT -> divisor(tree.getExpression());
            case PLUS_ASSIGNMENT -> joined(tree);
            default -> { }
        }
        changed(tree.getVariable());
        return super.visitCompoundAssignment(tree, none);
    }

    @Override public Void visitAssignment(AssignmentTree tree, Void none) {
        changed(tree.getVariable());
        return super.visitAssignment(tree, none);
    }

    @Override public Void visitUnary(UnaryTree tree, Void none) {
        switch (tree.getKind()) {
            case PREFIX_INCREMENT, PREFIX_DECREMENT, POSTFIX_INCREMENT, POSTFIX_DECREMENT -> changed(tree.getExpression());
            default -> { }
        }
        return super.visitUnary(tree, none);
    }

    private void joined(ExpressionTree tree) {
        if (!typeOf(tree).getKind().isPrimitive()) {
            breaks(10, "texts joined by +", tree);
        }
    }

    private void same(BinaryTree tree) {
        String left = typeOf(tree.getLeftOperand()).toString();
        String right = typeOf(tree.getRightOperand()).toString();
        if (left.equals(right) && left.startsWith("java.lang.")) {
            breaks(6, "== of " + left, tree);
        }
    }

    /** Only numbers that are written out are divided by. */
    private void divisor(ExpressionTree tree) {
        Long value = Constants.valueOf(tree, this::constantOf);
        if (value == null || value == 0) {
            breaks(7, "a divisor that may be 0", tree);
        }
    }

    private Long constantOf(ExpressionTree tree) {
        Element element = elementOf(tree);
        Object value = element instanceof VariableElement variable ? variable.getConstantValue() : null;
        return value instanceof Number number ? (Long) number.longValue() : null;
    }

    /** Rows of constants stay as they are written. */
    private void changed(ExpressionTree tree) {
        if (!(tree instanceof ArrayAccessTree access)) {
            return;
        }
        Element row = elementOf(access.getExpression());
        if (row != null && row.getKind() == ElementKind.FIELD && row.getModifiers().contains(Modifier.STATIC)) {
            breaks(5, "a change of " + row, tree);
        }
    }

    @Override public Void visitForLoop(ForLoopTree tree, Void none) {
        if (tree.getUpdate().isEmpty()) {
            breaks(9, "a for without a step", tree);
        }
        bound(tree.getCondition(), tree);
        return super.visitForLoop(tree, none);
    }

    @Override public Void visitWhileLoop(WhileLoopTree tree, Void none) {
        bound(tree.getCondition(), tree);
        return super.visitWhileLoop(tree, none);
    }

    @Override public Void visitDoWhileLoop(DoWhileLoopTree tree, Void none) {
        bound(tree.getCondition(), tree);
        return super.visitDoWhileLoop(tree, none);
    }

    private void bound(ExpressionTree condition, Tree loop) {
        if (condition == null || !condition.toString().matches("(?s).*\\w (<|<=|>|>=) .*") || condition.toString().contains("||")) {
            breaks(9, "a loop whose end can't be seen", loop);
        }
    }

    // ---- calls and what they make

    @Override public Void visitMethodInvocation(MethodInvocationTree tree, Void none) {
        if (elementOf(tree) instanceof ExecutableElement called) {
            String name = named(called);
            boolean isSuper = called.getKind() == ElementKind.CONSTRUCTOR;
            boolean isClone = tree.getMethodSelect().toString().endsWith(".clone");
            if (!isOwn(called) && !isSuper && !isClone && !LIBRARY.contains(owner(called) + "." + called.getSimpleName())) {
                breaks(4, "the library's " + name, tree);
            }
            if (!isSuper) {
                calledFrom(name);
                if (making && !method.isEmpty()) {
                    breaks(12, "a constructor that calls " + name, tree);
                }
            }
        }
        return super.visitMethodInvocation(tree, none);
    }

    private void calledFrom(String name) {
        if (!method.isEmpty()) {
            calls.computeIfAbsent(method, m -> new TreeSet<>()).add(name);
        }
    }

    @Override public Void visitNewClass(NewClassTree tree, Void none) {
        if (elementOf(tree) instanceof ExecutableElement maker) {
            if (!isOwn(maker)) {
                breaks(4, "new " + tree.getIdentifier(), tree);
            }
            calledFrom(named(maker));
        }
        if (!making) {
            breaks(12, "a call that makes an object", tree);
        }
        return super.visitNewClass(tree, none);
    }

    @Override public Void visitNewArray(NewArrayTree tree, Void none) {
        for (ExpressionTree length : tree.getDimensions()) {
            Long value = Constants.valueOf(length, this::constantOf);
            if (value == null || value < 0) {
                breaks(7, "a length that isn't written out", tree);
            }
        }
        if (!making) {
            breaks(12, "a call that makes a row", tree);
        }
        return super.visitNewArray(tree, none);
    }

    private static boolean isOwn(ExecutableElement called) {
        return owner(called).startsWith("ReliefGales");
    }

    private static String owner(ExecutableElement called) {
        return ((TypeElement) called.getEnclosingElement()).getQualifiedName().toString();
    }

    private static String named(ExecutableElement called) {
        return owner(called) + "." + called;
    }

    private Element elementOf(Tree tree) {
        TreePath path = TreePath.getPath(unit, tree);
        return path == null ? null : trees.getElement(path);
    }

    private TypeMirror typeOf(Tree tree) {
        return trees.getTypeMirror(TreePath.getPath(unit, tree));
    }
}
