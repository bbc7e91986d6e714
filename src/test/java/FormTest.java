import com.sun.source.tree.ArrayAccessTree;
import com.sun.source.tree.AssignmentTree;
import com.sun.source.tree.BinaryTree;
import com.sun.source.tree.ClassTree;
import com.sun.source.tree.CompilationUnitTree;
import com.sun.source.tree.CompoundAssignmentTree;
import com.sun.source.tree.ExpressionTree;
import com.sun.source.tree.ForLoopTree;
import com.sun.source.tree.MethodInvocationTree;
import com.sun.source.tree.MethodTree;
import com.sun.source.tree.NewArrayTree;
import com.sun.source.tree.NewClassTree;
import com.sun.source.tree.Tree;
import com.sun.source.tree.VariableTree;
import com.sun.source.tree.WhileLoopTree;
import com.sun.source.util.JavacTask;
import com.sun.source.util.TreePath;
import com.sun.source.util.TreePathScanner;
import com.sun.source.util.Trees;
import java.io.IOException;
import java.util.HashMap;
import java.util.LinkedHashSet;
import java.util.List;
import java.util.Map;
import java.util.Set;
import javax.lang.model.element.Element;
import javax.lang.model.element.Modifier;
import javax.tools.JavaCompiler;
import javax.tools.StandardJavaFileManager;
import javax.tools.ToolProvider;

/** The sizes that LANGUAGE.md sets (its rules 9, 11 and 12), the library (4), static arrays (5); no call makes an object. */
public final class FormTest {
    private static final Due due = new Due();
    private static final int LOOP = 1000;
    private static final Set<String> LIBRARY = Set.of("java.util.Arrays.fill", "java.lang.Integer.bitCount",
        "java.lang.Math.min", "java.lang.Math.max", "java.lang.Object.<init>");
    private static final Map<Element, Set<Element>> callees = new HashMap<>();
    private static final Map<Element, Integer> depths = new HashMap<>();

    public static void main(String[] args) throws IOException {
        JavaCompiler compiler = ToolProvider.getSystemJavaCompiler();
        StandardJavaFileManager files = compiler.getStandardFileManager(null, null, null);
        JavacTask task = (JavacTask) compiler.getTask(null, files, null, List.of("-proc:none"), null,
            files.getJavaFileObjects("src/main/java/PeaCups.java"));
        Iterable<? extends CompilationUnitTree> units = task.parse();
        task.analyze();
        for (CompilationUnitTree unit : units) {
            Scanner scanner = new Scanner(Trees.instance(task), unit);
            scanner.scan(unit, null);
            due.holds(scanner.classes + " classes", scanner.classes <= 12);
        }
        due.holds("methods are found", callees.size() > 50);
        for (Element method : callees.keySet()) {
            due.holds(method + " is " + depth(method) + " deep", depth(method) <= 8);
        }
        due.end();
    }

    private static int depth(Element method) {
        Integer known = depths.putIfAbsent(method, LOOP);
        if (known != null) {
            return known;
        }
        int deepest = 0;
        for (Element callee : callees.getOrDefault(method, Set.of())) {
            deepest = Math.max(deepest, depth(callee));
        }
        depths.put(method, deepest + 1);
        return deepest + 1;
    }

    private static final class Scanner extends TreePathScanner<Void, Void> {
        private final Trees trees;
        private final CompilationUnitTree unit;
        private Element method;
        private int classes;

        Scanner(Trees trees, CompilationUnitTree unit) {
            this.trees = trees;
            this.unit = unit;
        }

        private long line(long position) {
            return unit.getLineMap().getLineNumber(position);
        }

        private boolean isInCall() {
            return method != null && !method.getSimpleName().contentEquals("<init>");
        }

        @Override
        public Void visitClass(ClassTree tree, Void none) {
            classes++;
            int fields = 0;
            for (Tree member : tree.getMembers()) {
                fields += member instanceof VariableTree v && !v.getModifiers().getFlags().contains(Modifier.STATIC) ? 1 : 0;
            }
            due.holds(tree.getSimpleName() + " has " + fields + " fields", fields <= 20);
            return super.visitClass(tree, none);
        }

        @Override
        public Void visitMethod(MethodTree tree, Void none) {
            Element outer = method;
            method = trees.getElement(getCurrentPath());
            callees.putIfAbsent(method, new LinkedHashSet<>());
            long first = line(trees.getSourcePositions().getStartPosition(unit, tree));
            long last = line(trees.getSourcePositions().getEndPosition(unit, tree));
            due.holds(tree.getName() + " has " + (last - first + 1) + " lines", last - first < 60);
            due.holds(tree.getName() + " has few parameters", tree.getParameters().size() <= 7);
            super.visitMethod(tree, none);
            method = outer;
            return null;
        }

        @Override
        public Void visitMethodInvocation(MethodInvocationTree tree, Void none) {
            Element callee = trees.getElement(getCurrentPath());
            if (method != null) {
                callees.get(method).add(callee);
            }
            String name = callee.getEnclosingElement() + "." + callee.getSimpleName();
            due.holds("the library's " + name, name.startsWith("PeaCups.") || LIBRARY.contains(name));
            return super.visitMethodInvocation(tree, none);
        }

        /** An element of an array that is static is never changed. */
        private void lookAtChanged(ExpressionTree changed) {
            if (changed instanceof ArrayAccessTree access) {
                Element array = trees.getElement(new TreePath(getCurrentPath(), access.getExpression()));
                due.holds(access + " is changed", array != null && !array.getModifiers().contains(Modifier.STATIC));
            }
        }

        @Override
        public Void visitAssignment(AssignmentTree tree, Void none) {
            lookAtChanged(tree.getVariable());
            return super.visitAssignment(tree, none);
        }

        @Override
        public Void visitCompoundAssignment(CompoundAssignmentTree tree, Void none) {
            lookAtChanged(tree.getVariable());
            if (tree.getKind() == Tree.Kind.DIVIDE_ASSIGNMENT || tree.getKind() == Tree.Kind.REMAINDER_ASSIGNMENT) {
                lookAtDivisor(tree.getExpression());
            }
            return super.visitCompoundAssignment(tree, none);
        }

        /** A divisor is a constant, or one of the three that the code has looked at. */
        @Override
        public Void visitBinary(BinaryTree tree, Void none) {
            if (tree.getKind() == Tree.Kind.DIVIDE || tree.getKind() == Tree.Kind.REMAINDER) {
                lookAtDivisor(tree.getRightOperand());
            }
            return super.visitBinary(tree, none);
        }

        private void lookAtDivisor(ExpressionTree divisor) {
            String words = divisor.toString();
            due.holds("divided by " + words, words.matches("\\d+|[A-Z_]+|\\([A-Z_]+ \\* [A-Z_]+\\)|common|other|cupsLeft"));
        }

        @Override
        public Void visitNewClass(NewClassTree tree, Void none) {
            due.holds("a call makes an object: " + tree, !isInCall());
            return super.visitNewClass(tree, none);
        }

        @Override
        public Void visitNewArray(NewArrayTree tree, Void none) {
            due.holds("a call makes an array: " + tree, !isInCall());
            return super.visitNewArray(tree, none);
        }

        @Override
        public Void visitForLoop(ForLoopTree tree, Void none) {
            due.holds("a loop has a bound: " + tree, tree.getCondition() != null && !tree.getUpdate().isEmpty());
            return super.visitForLoop(tree, none);
        }

        @Override
        public Void visitWhileLoop(WhileLoopTree tree, Void none) {
            due.holds("a loop without a counter: " + tree, false);
            return super.visitWhileLoop(tree, none);
        }
    }
}
