import com.sun.source.tree.AssignmentTree;
import com.sun.source.tree.BinaryTree;
import com.sun.source.tree.ExpressionTree;
import com.sun.source.tree.ParenthesizedTree;
import com.sun.source.tree.Tree;
import com.sun.source.tree.UnaryTree;
import com.sun.source.util.TreeScanner;
import java.util.Set;
import java.util.TreeSet;

/** Whether the lines of a loop show its end: a counter that goes to a bound, or a chain of objects. */
final class Loops {
    private static final Set<Tree.Kind> UP = Set.of(Tree.Kind.POSTFIX_INCREMENT, Tree.Kind.PREFIX_INCREMENT);
    private static final Set<Tree.Kind> DOWN = Set.of(Tree.Kind.POSTFIX_DECREMENT, Tree.Kind.PREFIX_DECREMENT);
    private static final Set<Tree.Kind> BELOW = Set.of(Tree.Kind.LESS_THAN, Tree.Kind.LESS_THAN_EQUAL);
    private static final Set<Tree.Kind> ABOVE = Set.of(Tree.Kind.GREATER_THAN, Tree.Kind.GREATER_THAN_EQUAL);

    private Loops() {
    }

    static boolean ends(ExpressionTree condition, Tree loop) {
        if (condition instanceof ParenthesizedTree) {
            return ends(((ParenthesizedTree) condition).getExpression(), loop);
        }
        if (!(condition instanceof BinaryTree)) {
            return false;
        }
        BinaryTree both = (BinaryTree) condition;
        if (both.getKind() == Tree.Kind.CONDITIONAL_AND) {
            return ends(both.getLeftOperand(), loop) || ends(both.getRightOperand(), loop);
        }
        String left = both.getLeftOperand().toString();
        Steps steps = new Steps();
        steps.scan(loop, null);
        boolean isUp = BELOW.contains(both.getKind()) && steps.up.contains(left) && !steps.down.contains(left);
        boolean isDown = ABOVE.contains(both.getKind()) && steps.down.contains(left) && !steps.up.contains(left);
        boolean isChain = both.getKind() == Tree.Kind.NOT_EQUAL_TO && steps.onward.contains(left);
        return isUp || isDown || isChain;
    }

    /** The variables that the lines of a loop count up, count down, or move on along a chain. */
    private static final class Steps extends TreeScanner<Void, Void> {
        final Set<String> up = new TreeSet<>();
        final Set<String> down = new TreeSet<>();
        final Set<String> onward = new TreeSet<>();

        @Override
        public Void visitUnary(UnaryTree tree, Void none) {
            String name = tree.getExpression().toString();
            if (UP.contains(tree.getKind())) {
                up.add(name);
            }
            if (DOWN.contains(tree.getKind())) {
                down.add(name);
            }
            return super.visitUnary(tree, none);
        }

        @Override
        public Void visitAssignment(AssignmentTree tree, Void none) {
            String name = tree.getVariable().toString();
            if (tree.getExpression().toString().startsWith(name + ".")) {
                onward.add(name);
            }
            return super.visitAssignment(tree, none);
        }
    }
}
