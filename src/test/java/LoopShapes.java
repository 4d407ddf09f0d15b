import com.sun.source.tree.AssignmentTree;
import com.sun.source.tree.CompoundAssignmentTree;
import com.sun.source.tree.ExpressionStatementTree;
import com.sun.source.tree.ExpressionTree;
import com.sun.source.tree.ForLoopTree;
import com.sun.source.tree.MemberSelectTree;
import com.sun.source.tree.StatementTree;
import com.sun.source.tree.UnaryTree;
import com.sun.source.tree.VariableTree;
import com.sun.source.util.TreePath;
import com.sun.source.util.TreeScanner;
import com.sun.source.util.Trees;
import java.util.HashSet;
import java.util.Set;
import javax.lang.model.element.Element;
import javax.lang.model.element.Modifier;

/** Rule 9: the two shapes of a for whose end can be seen from its own lines. */
final class LoopShapes {
    private LoopShapes() { }

    static boolean hasAnEnd(ForLoopTree loop, Trees trees, TreePath path) {
        if (loop.getInitializer().size() != 1 || loop.getUpdate().size() != 1
                || loop.getCondition() == null
                || !(loop.getInitializer().get(0) instanceof VariableTree)) {
            return false;
        }
        String name = ((VariableTree) loop.getInitializer().get(0)).getName().toString();
        String condition = loop.getCondition().toString();
        Set<String> changed = changedIn(loop.getStatement());
        if (condition.startsWith(name + " < ")) {
            String bound = condition.substring(name.length() + 3);
            return update(loop).toString().equals(name + "++") && !changed.contains(name)
                    && bound.matches("\\w+") && !changed.contains(bound);
        }
        return condition.equals(name + " != null") && !changed.contains(name)
                && goesAlongFinals(name, loop, trees, path);
    }

    /** A chain of final fields has no ring, since an object is there before it can be pointed to. */
    private static boolean goesAlongFinals(String name, ForLoopTree loop, Trees trees,
            TreePath path) {
        if (!(update(loop) instanceof AssignmentTree)) {
            return false;
        }
        AssignmentTree step = (AssignmentTree) update(loop);
        if (!step.getVariable().toString().equals(name)
                || !(step.getExpression() instanceof MemberSelectTree)
                || !((MemberSelectTree) step.getExpression()).getExpression().toString()
                        .equals(name)) {
            return false;
        }
        Element next = trees.getElement(pathTo(step.getExpression(), loop, path));
        return next != null && next.getModifiers().contains(Modifier.FINAL);
    }

    private static TreePath pathTo(ExpressionTree tree, ForLoopTree loop, TreePath path) {
        return new TreePath(new TreePath(new TreePath(path, loop.getUpdate().get(0)),
                update(loop)), tree);
    }

    private static ExpressionTree update(ForLoopTree loop) {
        ExpressionStatementTree update = loop.getUpdate().get(0);
        return update.getExpression();
    }

    private static Set<String> changedIn(StatementTree body) {
        Set<String> changed = new HashSet<>();
        new TreeScanner<Void, Void>() {
            @Override
            public Void visitAssignment(AssignmentTree tree, Void none) {
                changed.add(tree.getVariable().toString());
                return super.visitAssignment(tree, none);
            }

            @Override
            public Void visitCompoundAssignment(CompoundAssignmentTree tree, Void none) {
                changed.add(tree.getVariable().toString());
                return super.visitCompoundAssignment(tree, none);
            }

            @Override
            public Void visitUnary(UnaryTree tree, Void none) {
                if (tree.toString().contains("++") || tree.toString().contains("--")) {
                    changed.add(tree.getExpression().toString());
                }
                return super.visitUnary(tree, none);
            }
        }.scan(body, null);
        return changed;
    }
}
