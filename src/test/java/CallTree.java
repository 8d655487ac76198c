import com.sun.source.tree.ClassTree;
import com.sun.source.tree.CompilationUnitTree;
import com.sun.source.tree.LineMap;
import com.sun.source.tree.MethodInvocationTree;
import com.sun.source.tree.MethodTree;
import com.sun.source.tree.NewClassTree;
import com.sun.source.tree.Tree;
import com.sun.source.util.JavacTask;
import com.sun.source.util.SourcePositions;
import com.sun.source.util.TreePath;
import com.sun.source.util.TreePathScanner;
import com.sun.source.util.Trees;
import java.io.File;
import java.io.IOException;
import java.util.ArrayList;
import java.util.HashSet;
import java.util.List;
import java.util.Map;
import java.util.Set;
import java.util.TreeMap;
import java.util.TreeSet;
import javax.lang.model.element.Element;
import javax.lang.model.element.ElementKind;
import javax.tools.JavaCompiler;
import javax.tools.StandardJavaFileManager;
import javax.tools.ToolProvider;

/** Who calls whom in the class, as javac itself sees it. */
final class CallTree extends TreePathScanner<Void, String> {
    /** Of each method of the class the methods of the class that it calls. */
    final Map<String, Set<String>> own = new TreeMap<>();
    /** What is called or made that the class does not hold itself. */
    final Set<String> foreign = new TreeSet<>();
    final Map<String, Integer> lines = new TreeMap<>();
    final Map<String, Integer> parameters = new TreeMap<>();
    final List<ClassTree> classes = new ArrayList<>();
    final Set<Tree.Kind> kinds = new HashSet<>();

    private final Trees trees;
    private final CompilationUnitTree unit;
    private final SourcePositions where;

    private CallTree(Trees trees, CompilationUnitTree unit) {
        this.trees = trees;
        this.unit = unit;
        this.where = trees.getSourcePositions();
    }

    static CallTree of(String path) throws IOException {
        JavaCompiler javac = ToolProvider.getSystemJavaCompiler();
        StandardJavaFileManager files = javac.getStandardFileManager(null, null, null);
        JavacTask task = (JavacTask) javac.getTask(null, files, null, List.of("-proc:none"), null,
            files.getJavaFileObjects(new File(path)));
        CompilationUnitTree unit = task.parse().iterator().next();
        task.analyze();
        CallTree found = new CallTree(Trees.instance(task), unit);
        found.scan(unit, "");
        return found;
    }

    @Override
    public Void scan(Tree tree, String within) {
        if (tree != null) {
            kinds.add(tree.getKind());
        }
        return super.scan(tree, within);
    }

    @Override
    public Void visitClass(ClassTree tree, String within) {
        classes.add(tree);
        return super.visitClass(tree, tree.getSimpleName().toString());
    }

    @Override
    public Void visitMethod(MethodTree tree, String within) {
        String name = name(trees.getElement(getCurrentPath()));
        own.computeIfAbsent(name, key -> new TreeSet<>());
        parameters.put(name, tree.getParameters().size());
        LineMap map = unit.getLineMap();
        lines.put(name, (int) (map.getLineNumber(where.getEndPosition(unit, tree))
            - map.getLineNumber(where.getStartPosition(unit, tree)) + 1));
        return super.visitMethod(tree, name);
    }

    @Override
    public Void visitMethodInvocation(MethodInvocationTree tree, String within) {
        note(within, new TreePath(getCurrentPath(), tree.getMethodSelect()));
        return super.visitMethodInvocation(tree, within);
    }

    @Override
    public Void visitNewClass(NewClassTree tree, String within) {
        note(within, getCurrentPath());
        return super.visitNewClass(tree, within);
    }

    private void note(String within, TreePath path) {
        Element called = trees.getElement(path);
        String name = name(called);
        if (called.getEnclosingElement().toString().startsWith("KerbSide")) {
            own.computeIfAbsent(within, key -> new TreeSet<>()).add(name);
        } else if (!name.equals("Object.<init>")) {
            foreign.add(name);
        }
    }

    private static String name(Element method) {
        String kind = method.getKind() == ElementKind.CONSTRUCTOR ? "<init>" : method.getSimpleName().toString();
        return method.getEnclosingElement().getSimpleName() + "." + kind;
    }

    /** The methods that can come to be called, in the end, from this one. */
    Set<String> reached(String from) {
        Set<String> found = new TreeSet<>();
        List<String> open = new ArrayList<>(own.getOrDefault(from, Set.of()));
        while (!open.isEmpty()) {
            String next = open.remove(open.size() - 1);
            if (found.add(next)) {
                open.addAll(own.getOrDefault(next, Set.of()));
            }
        }
        return found;
    }

    /** How deep calls go from this method on; methods that call one another in a ring count as one. */
    int depth(String from) {
        Set<String> ring = ring(from);
        int deepest = 0;
        for (String member : ring) {
            for (String next : own.getOrDefault(member, Set.of())) {
                if (!ring.contains(next)) {
                    deepest = Math.max(deepest, depth(next));
                }
            }
        }
        return deepest + 1;
    }

    Set<String> ring(String method) {
        Set<String> ring = new TreeSet<>(Set.of(method));
        for (String other : reached(method)) {
            if (reached(other).contains(method)) {
                ring.add(other);
            }
        }
        return ring;
    }
}
