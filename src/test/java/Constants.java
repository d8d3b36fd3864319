import com.sun.source.tree.BinaryTree;
import com.sun.source.tree.ExpressionTree;
import com.sun.source.tree.LiteralTree;
import com.sun.source.tree.ParenthesizedTree;
import java.util.function.Function;

/** What a sum of numbers and named constants comes to. */
final class Constants {
    private Constants() { }

    /** null if it isn't made of numbers, constants, + - and * alone. */
    static Long valueOf(ExpressionTree tree, Function<ExpressionTree, Long> named) {
        if (tree instanceof ParenthesizedTree inner) {
            return valueOf(inner.getExpression(), named);
        }
        if (tree instanceof LiteralTree literal) {
            return literal.getValue() instanceof Number number ? (Long) number.longValue() : null;
        }
        if (!(tree instanceof BinaryTree sum)) {
            return named.apply(tree);
        }
        Long left = valueOf(sum.getLeftOperand(), named);
        Long right = valueOf(sum.getRightOperand(), named);
        if (left == null || right == null) {
            return null;
        }
        return switch (sum.getKind()) {
            case PLUS -> (Long) (left + right);
            case MINUS -> (Long) (left - right);
            case MULTIPLY -> (Long) (left * right);
            default -> null;
        };
    }
}
