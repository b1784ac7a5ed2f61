import com.sun.source.tree.AssignmentTree;
import com.sun.source.tree.CompilationUnitTree;
import com.sun.source.tree.CompoundAssignmentTree;
import com.sun.source.tree.ExpressionTree;
import com.sun.source.tree.LiteralTree;
import com.sun.source.tree.MethodInvocationTree;
import com.sun.source.tree.MethodTree;
import com.sun.source.tree.Tree;
import com.sun.source.tree.UnaryTree;
import com.sun.source.util.JavacTask;
import com.sun.source.util.TreePath;
import com.sun.source.util.TreePathScanner;
import com.sun.source.util.TreeScanner;
import com.sun.source.util.Trees;
import java.io.IOException;
import java.nio.file.Files;
import java.nio.file.Path;
import java.util.ArrayList;
import java.util.HashSet;
import java.util.IdentityHashMap;
import java.util.LinkedHashMap;
import java.util.List;
import java.util.Map;
import java.util.Set;
import java.util.stream.Collectors;
import javax.lang.model.element.Element;
import javax.lang.model.element.VariableElement;
import javax.tools.JavaCompiler;
import javax.tools.StandardJavaFileManager;
import javax.tools.ToolProvider;

/** A Java file as its compiler reads it. */
final class Source {
    private final String text;
    private final CompilationUnitTree unit;
    private final Trees trees;
    private final Map<Tree, TreePath> paths = new IdentityHashMap<>();
    private final List<Tree> all = new ArrayList<>();

    private Source(String text, CompilationUnitTree unit, Trees trees) {
        this.text = text;
        this.unit = unit;
        this.trees = trees;
        new TreePathScanner<Void, Void>() {
            @Override
            public Void scan(Tree tree, Void nothing) {
                if (tree != null) {
                    TreePath path = getCurrentPath() == null ? new TreePath(unit) : new TreePath(getCurrentPath(), tree);
                    paths.put(tree, path);
                    all.add(tree);
                }
                return super.scan(tree, nothing);
            }
        }.scan(new TreePath(unit), null);
    }

    static Source read(String file) throws IOException {
        JavaCompiler compiler = ToolProvider.getSystemJavaCompiler();
        try (StandardJavaFileManager files = compiler.getStandardFileManager(null, null, null)) {
            JavacTask task = (JavacTask) compiler.getTask(null, files, null, List.of("-proc:none"), null, files.getJavaFileObjects(file));
            CompilationUnitTree unit = task.parse().iterator().next();
            task.analyze();
            return new Source(Files.readString(Path.of(file)), unit, Trees.instance(task));
        }
    }

    String text() {
        return text;
    }

    CompilationUnitTree unit() {
        return unit;
    }

    <T extends Tree> List<T> all(Class<T> kind) {
        return all.stream().filter(kind::isInstance).map(kind::cast).collect(Collectors.toList());
    }

    TreePath path(Tree tree) {
        return paths.get(tree);
    }

    Element element(Tree tree) {
        return paths.containsKey(tree) ? trees.getElement(paths.get(tree)) : null;
    }

    long line(Tree tree) {
        long start = trees.getSourcePositions().getStartPosition(unit, tree);
        return start < 0 ? 0 : unit.getLineMap().getLineNumber(start);
    }

    long lines(Tree tree) {
        long end = trees.getSourcePositions().getEndPosition(unit, tree);
        return end < 0 ? 0 : unit.getLineMap().getLineNumber(end) - line(tree) + 1;
    }

    /** The number of a literal or of a constant; null for all else. */
    Object constant(ExpressionTree expression) {
        if (expression instanceof LiteralTree literal) {
            return literal.getValue();
        }
        return element(expression) instanceof VariableElement variable ? variable.getConstantValue() : null;
    }

    /** What is put in by an assignment, ++ or --. */
    List<ExpressionTree> changed() {
        return changedWithin(unit);
    }

    List<ExpressionTree> changedWithin(Tree tree) {
        List<ExpressionTree> changed = new ArrayList<>();
        new TreeScanner<Void, Void>() {
            @Override
            public Void visitAssignment(AssignmentTree assignment, Void nothing) {
                changed.add(assignment.getVariable());
                return super.visitAssignment(assignment, nothing);
            }

            @Override
            public Void visitCompoundAssignment(CompoundAssignmentTree assignment, Void nothing) {
                changed.add(assignment.getVariable());
                return super.visitCompoundAssignment(assignment, nothing);
            }

            @Override
            public Void visitUnary(UnaryTree operation, Void nothing) {
                if (operation.getKind().name().contains("CREMENT")) {
                    changed.add(operation.getExpression());
                }
                return super.visitUnary(operation, nothing);
            }
        }.scan(tree, null);
        return changed;
    }

    /** Which methods of the file each of them calls. */
    Map<Element, Set<Element>> calls() {
        Map<Element, Set<Element>> calls = new LinkedHashMap<>();
        for (MethodTree method : all(MethodTree.class)) {
            calls.put(element(method), new HashSet<>());
        }
        for (MethodInvocationTree call : all(MethodInvocationTree.class)) {
            for (TreePath path = path(call); path != null; path = path.getParentPath()) {
                if (path.getLeaf() instanceof MethodTree method && calls.containsKey(element(call))) {
                    calls.get(element(method)).add(element(call));
                }
            }
        }
        return calls;
    }
}
