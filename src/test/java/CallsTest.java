import com.sun.source.tree.ArrayAccessTree;
import com.sun.source.tree.BinaryTree;
import com.sun.source.tree.ClassTree;
import com.sun.source.tree.CompilationUnitTree;
import com.sun.source.tree.ConditionalExpressionTree;
import com.sun.source.tree.ForLoopTree;
import com.sun.source.tree.IfTree;
import com.sun.source.tree.MethodInvocationTree;
import com.sun.source.tree.MethodTree;
import com.sun.source.tree.NewClassTree;
import com.sun.source.tree.Tree;
import com.sun.source.tree.VariableTree;
import com.sun.source.util.JavacTask;
import com.sun.source.util.TreePath;
import com.sun.source.util.TreePathScanner;
import com.sun.source.util.Trees;
import java.io.IOException;
import java.nio.file.Path;
import java.util.ArrayList;
import java.util.HashMap;
import java.util.LinkedHashSet;
import java.util.List;
import java.util.Map;
import java.util.Set;
import javax.lang.model.element.Element;
import javax.lang.model.element.VariableElement;
import javax.tools.JavaCompiler;
import javax.tools.StandardJavaFileManager;
import javax.tools.ToolProvider;

/** The rules of LANGUAGE.md that are seen in who calls whom (8, 11), in what divides and in what is indexed (7). */
public final class CallsTest {
    private static final Path SOURCE = Path.of("src/main/java/VernierDrawers.java");
    private static final int MOST_DEEP = 8;

    private final Map<Element, Set<Element>> calls = new HashMap<>();
    private final Map<Element, Integer> depths = new HashMap<>();
    private final List<String> divisorsNotSeen = new ArrayList<>();
    private final List<String> indexesNotSeen = new ArrayList<>();
    private int divisions;
    private int countedIndexes;

    public static void main(String[] args) throws IOException {
        CallsTest test = new CallsTest();
        test.read();
        test.looksAtDivisors();
        test.looksAtIndexes();
        test.looksAtDepths();
        Check.end();
    }

    private void read() throws IOException {
        JavaCompiler compiler = ToolProvider.getSystemJavaCompiler();
        try (StandardJavaFileManager files = compiler.getStandardFileManager(null, null, null)) {
            JavacTask task = (JavacTask) compiler.getTask(null, files, null, List.of("-proc:none"), null,
                    files.getJavaFileObjects(SOURCE));
            Iterable<? extends CompilationUnitTree> units = task.parse();
            task.analyze();
            Scanner scanner = new Scanner(Trees.instance(task));
            for (CompilationUnitTree unit : units) {
                scanner.scan(unit, null);
            }
        }
    }

    private void looksAtDivisors() {
        Check.is("divisions are found", 1, () -> Check.of(divisions > 5));
        Check.is("divisors that are not looked at: " + divisorsNotSeen, 0, divisorsNotSeen::size);
    }

    private void looksAtIndexes() {
        Check.is("indexes that a loop counts are found", 1, () -> Check.of(countedIndexes > 20));
        Check.is("indexes that are not looked at: " + indexesNotSeen, 0, indexesNotSeen::size);
    }

    private void looksAtDepths() {
        Check.is("methods are found", 1, () -> Check.of(calls.size() > 76));
        for (Element method : calls.keySet()) {
            int depth = depthOf(method, new LinkedHashSet<>());
            Check.is("calls open at once, the first one " + method + ", are " + depth, 1,
                    () -> Check.of(depth <= MOST_DEEP));
        }
    }

    /** How many calls are open at once at most; too many if a method calls itself by others. */
    private int depthOf(Element method, Set<Element> open) {
        if (!open.add(method)) {
            return MOST_DEEP + 1;
        }
        int below = 0;
        for (Element called : calls.getOrDefault(method, Set.of())) {
            if (!depths.containsKey(called)) {
                depths.put(called, depthOf(called, open));
            }
            below = Math.max(below, depths.get(called));
        }
        open.remove(method);
        return below + 1;
    }

    private final class Scanner extends TreePathScanner<Void, Void> {
        private final Trees trees;
        private Element inside;

        Scanner(Trees trees) {
            this.trees = trees;
        }

        @Override
        public Void visitMethod(MethodTree tree, Void none) {
            Element outer = inside;
            inside = trees.getElement(getCurrentPath());
            calls.computeIfAbsent(inside, m -> new LinkedHashSet<>());
            super.visitMethod(tree, none);
            inside = outer;
            return null;
        }

        /** What a field begins with is called by the constructors of its class. */
        @Override
        public Void visitVariable(VariableTree tree, Void none) {
            Element outer = inside;
            if (inside == null) {
                inside = constructorOf(getCurrentPath());
            }
            super.visitVariable(tree, none);
            inside = outer;
            return null;
        }

        private Element constructorOf(TreePath field) {
            TreePath owner = field.getParentPath();
            for (Tree member : ((ClassTree) owner.getLeaf()).getMembers()) {
                Element element = trees.getElement(new TreePath(owner, member));
                if (element != null && element.getSimpleName().contentEquals("<init>")) {
                    return element;
                }
            }
            throw new IllegalStateException("a class without a constructor: " + owner.getLeaf());
        }

        @Override
        public Void visitMethodInvocation(MethodInvocationTree tree, Void none) {
            call(trees.getElement(getCurrentPath()));
            return super.visitMethodInvocation(tree, none);
        }

        @Override
        public Void visitNewClass(NewClassTree tree, Void none) {
            call(trees.getElement(getCurrentPath()));
            return super.visitNewClass(tree, none);
        }

        private void call(Element called) {
            if (inside != null && called != null) {
                calls.computeIfAbsent(inside, m -> new LinkedHashSet<>()).add(called);
            }
        }

        @Override
        public Void visitBinary(BinaryTree tree, Void none) {
            if (tree.getKind() == Tree.Kind.DIVIDE || tree.getKind() == Tree.Kind.REMAINDER) {
                divisions++;
                if (!isConstant(tree.getRightOperand()) && !isGuarded(tree.getRightOperand())) {
                    divisorsNotSeen.add(tree.toString());
                }
            }
            return super.visitBinary(tree, none);
        }

        /** What a loop counts is compared, in the loop, with the row that it is an index of. */
        @Override
        public Void visitArrayAccess(ArrayAccessTree tree, Void none) {
            String index = tree.getIndex().toString();
            String row = tree.getExpression().toString().replaceAll(".*\\.", "").replaceAll("\\[.*", "");
            ForLoopTree loop = loopThatCounts(index);
            if (loop != null) {
                countedIndexes++;
                String condition = loop.getCondition().toString();
                boolean seen = (condition + " ").matches(".*\\b" + index + " (< (\\w+\\.)*" + row + "\\.length"
                        + "|< [A-Z]+|> 0)\\W.*");
                if (!seen) {
                    indexesNotSeen.add(tree + " with " + condition);
                }
            }
            return super.visitArrayAccess(tree, none);
        }

        private ForLoopTree loopThatCounts(String index) {
            for (TreePath path = getCurrentPath(); path != null && !(path.getLeaf() instanceof MethodTree);
                    path = path.getParentPath()) {
                if (path.getLeaf() instanceof ForLoopTree loop && !loop.getInitializer().isEmpty()
                        && loop.getInitializer().get(0) instanceof VariableTree counter
                        && counter.getName().contentEquals(index)) {
                    return loop;
                }
            }
            return null;
        }

        private boolean isConstant(Tree divisor) {
            if (divisor.getKind() == Tree.Kind.INT_LITERAL) {
                return !divisor.toString().equals("0");
            }
            Element element = trees.getElement(new TreePath(getCurrentPath(), divisor));
            return element instanceof VariableElement variable
                    && variable.getConstantValue() instanceof Integer value && value != 0;
        }

        /** A condition round it, in the same method, compares the divisor. */
        private boolean isGuarded(Tree divisor) {
            String name = divisor.toString().replaceAll("^\\(\\w+\\)", "");
            for (TreePath path = getCurrentPath(); path != null && !(path.getLeaf() instanceof MethodTree);
                    path = path.getParentPath()) {
                String condition = "";
                if (path.getLeaf() instanceof ConditionalExpressionTree choice) {
                    condition = choice.getCondition().toString();
                } else if (path.getLeaf() instanceof IfTree choice) {
                    condition = choice.getCondition().toString();
                }
                if (condition.matches("\\(?" + name + " (<=|==|>|!=) 0\\)?")) {
                    return true;
                }
            }
            return false;
        }
    }
}
