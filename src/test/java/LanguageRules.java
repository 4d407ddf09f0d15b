import com.sun.source.tree.AssertTree;
import com.sun.source.tree.BinaryTree;
import com.sun.source.tree.BlockTree;
import com.sun.source.tree.ClassTree;
import com.sun.source.tree.CompilationUnitTree;
import com.sun.source.tree.CompoundAssignmentTree;
import com.sun.source.tree.DoWhileLoopTree;
import com.sun.source.tree.ExpressionTree;
import com.sun.source.tree.ForLoopTree;
import com.sun.source.tree.ImportTree;
import com.sun.source.tree.InstanceOfTree;
import com.sun.source.tree.LambdaExpressionTree;
import com.sun.source.tree.LiteralTree;
import com.sun.source.tree.MemberReferenceTree;
import com.sun.source.tree.MethodInvocationTree;
import com.sun.source.tree.MethodTree;
import com.sun.source.tree.NewArrayTree;
import com.sun.source.tree.NewClassTree;
import com.sun.source.tree.StatementTree;
import com.sun.source.tree.SynchronizedTree;
import com.sun.source.tree.ThrowTree;
import com.sun.source.tree.Tree;
import com.sun.source.tree.TryTree;
import com.sun.source.tree.TypeCastTree;
import com.sun.source.tree.VariableTree;
import com.sun.source.tree.WhileLoopTree;
import com.sun.source.util.JavacTask;
import com.sun.source.util.TreePath;
import com.sun.source.util.TreePathScanner;
import com.sun.source.util.Trees;
import java.io.IOException;
import java.util.ArrayList;
import java.util.List;
import java.util.Set;
import javax.lang.model.element.Element;
import javax.lang.model.element.ExecutableElement;
import javax.lang.model.element.Modifier;
import javax.lang.model.element.TypeElement;
import javax.lang.model.type.ArrayType;
import javax.lang.model.type.DeclaredType;
import javax.lang.model.type.TypeKind;
import javax.lang.model.type.TypeMirror;
import javax.tools.JavaFileObject;
import javax.tools.ToolProvider;

/**
 * Tells what a source has outside LANGUAGE.md, as far as its tree shows it. Where the class needs
 * less than a rule allows (no lists, texts, casts or catches), all of it is refused, for a narrow
 * test is a plain one; whoever needs more widens it here. Rule 7 can't be seen in a tree.
 */
final class LanguageRules extends TreePathScanner<Void, Void> {
    private static final Set<String> THROWN = Set.of("IllegalStateException",
            "IllegalArgumentException", "IndexOutOfBoundsException", "ArithmeticException",
            "UnsupportedOperationException", "NoSuchElementException", "RuntimeException");
    private static final Set<String> NOT_ONES_OWN = Set.of("equals", "hashCode", "toString");

    private final Trees trees;
    private final CallChains chains = new CallChains();
    private final List<String> breaches = new ArrayList<>();
    private CompilationUnitTree unit;
    private TypeElement outer;
    private int classes;

    private LanguageRules(Trees trees) {
        this.trees = trees;
    }

    /** Each breach begins with the number of its rule, 0 for what stands before rule 1. */
    static List<String> breaches(JavaFileObject source) throws IOException {
        JavacTask task = (JavacTask) ToolProvider.getSystemJavaCompiler().getTask(
                null, null, null, List.of("-proc:none"), null, List.of(source));
        CompilationUnitTree unit = task.parse().iterator().next();
        task.analyze();
        LanguageRules rules = new LanguageRules(Trees.instance(task));
        rules.scan(unit, null);
        rules.chains.tellBreaches(rules.breaches);
        return rules.breaches;
    }

    private void refuse(boolean breach, int rule, String what, Tree at) {
        if (breach) {
            long line = unit.getLineMap().getLineNumber(
                    trees.getSourcePositions().getStartPosition(unit, at));
            breaches.add(rule + ": " + what + " in line " + line);
        }
    }

    @Override
    public Void visitCompilationUnit(CompilationUnitTree tree, Void none) {
        unit = tree;
        refuse(tree.getPackage() != null, 0, "a package line", tree);
        refuse(tree.getTypeDecls().size() != 1, 0, "not one class in the file", tree);
        super.visitCompilationUnit(tree, none);
        refuse(classes > 12, 11, "more than twelve classes", tree);
        return null;
    }

    @Override
    public Void visitImport(ImportTree tree, Void none) {
        refuse(!tree.getQualifiedIdentifier().toString().equals("java.util.NoSuchElementException"),
                4, "an import", tree);
        return null;
    }

    @Override
    public Void visitClass(ClassTree tree, Void none) {
        classes++;
        Set<Modifier> modifiers = tree.getModifiers().getFlags();
        if (outer == null) {
            outer = (TypeElement) trees.getElement(getCurrentPath());
            refuse(!modifiers.equals(Set.of(Modifier.PUBLIC, Modifier.FINAL)), 1,
                    "a class that is not public and final", tree);
        } else {
            refuse(enclosing(MethodTree.class) != null, 2, "a class in a method", tree);
            refuse(!modifiers.contains(Modifier.STATIC) || modifiers.contains(Modifier.PUBLIC)
                    || modifiers.contains(Modifier.PROTECTED), 1, "not static, or seen", tree);
        }
        long fields = tree.getMembers().stream().filter(LanguageRules::isOwnField).count();
        refuse(fields > 20, 11, "more than twenty fields", tree);
        return super.visitClass(tree, none);
    }

    private static boolean isOwnField(Tree member) {
        return member instanceof VariableTree && !isStatic((VariableTree) member);
    }

    private static boolean isStatic(VariableTree tree) {
        return tree.getModifiers().getFlags().contains(Modifier.STATIC);
    }

    @Override
    public Void visitMethod(MethodTree tree, Void none) {
        chains.addMethod(calledAt(getCurrentPath()));
        refuse(tree.getParameters().size() > 7, 11, "more than seven parameters", tree);
        refuse(lines(tree) > 60, 11, "more than sixty lines", tree);
        refuse(NOT_ONES_OWN.contains(tree.getName().toString()), 6, "a method of all objects", tree);
        refuse(tree.getModifiers().getFlags().contains(Modifier.SYNCHRONIZED), 6, "synchronized",
                tree);
        refuse(carriesDepth(tree) && !looksAtDepthFirst(tree), 8, "a depth without a guard", tree);
        return super.visitMethod(tree, none);
    }

    private static boolean carriesDepth(MethodTree tree) {
        return tree.getParameters().stream().anyMatch(p -> p.getName().contentEquals("depth"));
    }

    private static boolean looksAtDepthFirst(MethodTree tree) {
        List<? extends StatementTree> statements = tree.getBody().getStatements();
        return !statements.isEmpty()
                && statements.get(0).toString().matches("(?s)if \\(depth >= [A-Z_]+ .*return;.*");
    }

    private long lines(Tree tree) {
        long from = trees.getSourcePositions().getStartPosition(unit, tree);
        long to = trees.getSourcePositions().getEndPosition(unit, tree);
        // A constructor that javac adds has no end.
        return to < 0 ? 0 : unit.getLineMap().getLineNumber(to)
                - unit.getLineMap().getLineNumber(from) + 1;
    }

    @Override
    public Void visitVariable(VariableTree tree, Void none) {
        refuse(!isAllowed(trees.getTypeMirror(new TreePath(getCurrentPath(), tree.getType()))), 3,
                "the type " + tree.getType(), tree);
        if (isStatic(tree)) {
            refuse(!tree.getModifiers().getFlags().contains(Modifier.FINAL), 5,
                    "a static field that is not final", tree);
            refuse(!tree.getType().toString().equals("int") || !isNumber(tree.getInitializer()), 5,
                    "a static field that is no written int", tree);
        }
        return super.visitVariable(tree, none);
    }

    private static boolean isNumber(ExpressionTree tree) {
        return tree != null && (tree.getKind() == Tree.Kind.INT_LITERAL
                || (tree.getKind() == Tree.Kind.UNARY_MINUS && tree.toString().matches("-\\d+")));
    }

    private boolean isAllowed(TypeMirror type) {
        if (type.getKind() == TypeKind.ARRAY) {
            TypeMirror element = ((ArrayType) type).getComponentType();
            return element.getKind() != TypeKind.ARRAY && isAllowed(element);
        }
        return type.getKind() == TypeKind.INT || type.getKind() == TypeKind.BOOLEAN
                || (type.getKind() == TypeKind.DECLARED && isOwn(((DeclaredType) type).asElement()));
    }

    private boolean isOwn(Element element) {
        for (Element e = element; e != null; e = e.getEnclosingElement()) {
            if (e.equals(outer)) {
                return true;
            }
        }
        return false;
    }

    @Override
    public Void visitBlock(BlockTree tree, Void none) {
        refuse(tree.isStatic(), 5, "a static initialiser", tree);
        return super.visitBlock(tree, none);
    }

    @Override
    public Void visitLambdaExpression(LambdaExpressionTree tree, Void none) {
        refuse(true, 2, "a lambda", tree);
        return null;
    }

    @Override
    public Void visitMemberReference(MemberReferenceTree tree, Void none) {
        refuse(true, 2, "a method reference", tree);
        return null;
    }

    @Override
    public Void visitMethodInvocation(MethodInvocationTree tree, Void none) {
        ExecutableElement called = calledAt(getCurrentPath());
        boolean addedByJavac = called.getSimpleName().contentEquals("<init>");
        refuse(!isOwn(called) && !addedByJavac, 4, "a call of the library, " + called, tree);
        if (isOwn(called)) {
            chains.addCall(callerElement(), called, tree);
        }
        return super.visitMethodInvocation(tree, none);
    }

    private ExecutableElement calledAt(TreePath path) {
        return (ExecutableElement) trees.getElement(path);
    }

    private ExecutableElement callerElement() {
        TreePath path = getCurrentPath();
        while (!(path.getLeaf() instanceof MethodTree)) {
            path = path.getParentPath();
        }
        return calledAt(path);
    }

    @Override
    public Void visitNewClass(NewClassTree tree, Void none) {
        boolean thrown = getCurrentPath().getParentPath().getLeaf() instanceof ThrowTree;
        if (!thrown) {
            refuse(!isOwn(trees.getElement(getCurrentPath())), 4, "an object of the library", tree);
            refuse(enclosing(ForLoopTree.class) != null && !inConstructor(), 12,
                    "an object made in a loop", tree);
            if (enclosing(MethodTree.class) != null) {
                chains.addCall(callerElement(), calledAt(getCurrentPath()), tree);
            }
        }
        return super.visitNewClass(tree, none);
    }

    @Override
    public Void visitNewArray(NewArrayTree tree, Void none) {
        refuse(!inConstructor(), 12, "a row made outside a constructor", tree);
        return super.visitNewArray(tree, none);
    }

    @Override
    public Void visitThrow(ThrowTree tree, Void none) {
        refuse(inConstructor(), 6, "a throw in a constructor", tree);
        refuse(!isPlainThrow(tree.getExpression()), 6, "no plain throw of a named exception", tree);
        return super.visitThrow(tree, none);
    }

    private static boolean isPlainThrow(ExpressionTree thrown) {
        if (!(thrown instanceof NewClassTree)) {
            return false;
        }
        NewClassTree made = (NewClassTree) thrown;
        List<? extends ExpressionTree> arguments = made.getArguments();
        boolean written = arguments.isEmpty() || (arguments.size() == 1
                && arguments.get(0).getKind() == Tree.Kind.STRING_LITERAL);
        return written && made.getClassBody() == null
                && THROWN.contains(made.getIdentifier().toString());
    }

    @Override
    public Void visitTry(TryTree tree, Void none) {
        refuse(true, 6, "a try", tree);
        return super.visitTry(tree, none);
    }

    @Override
    public Void visitSynchronized(SynchronizedTree tree, Void none) {
        refuse(true, 6, "synchronized", tree);
        return super.visitSynchronized(tree, none);
    }

    @Override
    public Void visitAssert(AssertTree tree, Void none) {
        refuse(true, 6, "an assert", tree);
        return super.visitAssert(tree, none);
    }

    @Override
    public Void visitTypeCast(TypeCastTree tree, Void none) {
        refuse(true, 6, "a cast", tree);
        return super.visitTypeCast(tree, none);
    }

    @Override
    public Void visitInstanceOf(InstanceOfTree tree, Void none) {
        refuse(true, 6, "an instanceof", tree);
        return super.visitInstanceOf(tree, none);
    }

    @Override
    public Void visitLiteral(LiteralTree tree, Void none) {
        boolean ofThrow = getCurrentPath().getParentPath().getParentPath().getLeaf()
                instanceof ThrowTree;
        refuse(tree.getKind() == Tree.Kind.STRING_LITERAL && !ofThrow, 3, "a text", tree);
        return super.visitLiteral(tree, none);
    }

    @Override
    public Void visitBinary(BinaryTree tree, Void none) {
        refuse(tree.getKind() == Tree.Kind.DIVIDE || tree.getKind() == Tree.Kind.REMAINDER, 7,
                "a division", tree);
        return super.visitBinary(tree, none);
    }

    @Override
    public Void visitCompoundAssignment(CompoundAssignmentTree tree, Void none) {
        refuse(tree.getKind() == Tree.Kind.DIVIDE_ASSIGNMENT
                || tree.getKind() == Tree.Kind.REMAINDER_ASSIGNMENT, 7, "a division", tree);
        return super.visitCompoundAssignment(tree, none);
    }

    @Override
    public Void visitForLoop(ForLoopTree tree, Void none) {
        refuse(!LoopShapes.hasAnEnd(tree, trees, getCurrentPath()), 9,
                "a for without an end to be seen", tree);
        return super.visitForLoop(tree, none);
    }

    @Override
    public Void visitWhileLoop(WhileLoopTree tree, Void none) {
        refuse(true, 9, "a while", tree);
        return super.visitWhileLoop(tree, none);
    }

    @Override
    public Void visitDoWhileLoop(DoWhileLoopTree tree, Void none) {
        refuse(true, 9, "a do", tree);
        return super.visitDoWhileLoop(tree, none);
    }

    private boolean inConstructor() {
        Tree method = enclosing(MethodTree.class);
        return method != null && ((MethodTree) method).getName().contentEquals("<init>");
    }

    private Tree enclosing(Class<? extends Tree> kind) {
        for (TreePath p = getCurrentPath().getParentPath(); p != null; p = p.getParentPath()) {
            if (kind.isInstance(p.getLeaf())) {
                return p.getLeaf();
            }
        }
        return null;
    }
}
