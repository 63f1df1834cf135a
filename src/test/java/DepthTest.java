import com.sun.source.tree.CompilationUnitTree;
import com.sun.source.tree.MethodInvocationTree;
import com.sun.source.tree.MethodTree;
import com.sun.source.tree.NewClassTree;
import com.sun.source.util.JavacTask;
import com.sun.source.util.TreePathScanner;
import com.sun.source.util.Trees;
import java.io.IOException;
import java.util.ArrayDeque;
import java.util.Deque;
import java.util.HashMap;
import java.util.LinkedHashMap;
import java.util.LinkedHashSet;
import java.util.List;
import java.util.Map;
import java.util.Set;
import javax.lang.model.element.Element;
import javax.tools.JavaCompiler;
import javax.tools.StandardJavaFileManager;
import javax.tools.ToolProvider;

/** Rule 11 of ../shared/LANGUAGE.md: how deep the calls go, and how long the methods are. */
public final class DepthTest {
    private static final int DEEPEST = 8;
    private static final int LONGEST = 60;
    private static final Check check = new Check();

    /** For each method of the class and of those inside it, the methods of theirs that it calls. */
    private static final Map<Element, Set<Element>> calls = new LinkedHashMap<>();
    private static final Map<Element, Integer> depths = new HashMap<>();

    private static void read() throws IOException {
        JavaCompiler compiler = ToolProvider.getSystemJavaCompiler();
        try (StandardJavaFileManager files = compiler.getStandardFileManager(null, null, null)) {
            JavacTask task = (JavacTask) compiler.getTask(null, files, null, null, null,
                files.getJavaFileObjects(Project.SOURCE.toFile()));
            Iterable<? extends CompilationUnitTree> units = task.parse();
            task.analyze();
            for (CompilationUnitTree unit : units) {
                new Reader(Trees.instance(task), unit).scan(unit, null);
            }
        }
    }

    private static final class Reader extends TreePathScanner<Void, Void> {
        private final Trees trees;
        private final CompilationUnitTree unit;
        private Element caller;

        Reader(Trees trees, CompilationUnitTree unit) {
            this.trees = trees;
            this.unit = unit;
        }

        @Override
        public Void visitMethod(MethodTree method, Void nothing) {
            caller = trees.getElement(getCurrentPath());
            calls.put(caller, new LinkedHashSet<>());
            long from = trees.getSourcePositions().getStartPosition(unit, method);
            long to = trees.getSourcePositions().getEndPosition(unit, method);
            if (to > from) {
                long lines = unit.getLineMap().getLineNumber(to) - unit.getLineMap().getLineNumber(from) + 1;
                check.yes(method.getName() + " is short", lines <= LONGEST);
            }
            super.visitMethod(method, nothing);
            caller = null;
            return null;
        }

        @Override
        public Void visitMethodInvocation(MethodInvocationTree call, Void nothing) {
            note();
            return super.visitMethodInvocation(call, nothing);
        }

        @Override
        public Void visitNewClass(NewClassTree made, Void nothing) {
            note();
            return super.visitNewClass(made, nothing);
        }

        private void note() {
            if (caller != null) {
                calls.get(caller).add(trees.getElement(getCurrentPath()));
            }
        }
    }

    /** How many calls stand open at most from this one on; a method that calls itself is a wrong answer here. */
    private static int depthOf(Element method, Deque<Element> open) {
        if (!calls.containsKey(method)) {
            return 0;
        }
        check.no(method + " is no recursion", open.contains(method));
        if (depths.containsKey(method) || open.contains(method)) {
            return depths.getOrDefault(method, 0);
        }
        open.push(method);
        int deepest = 0;
        for (Element called : calls.get(method)) {
            deepest = Math.max(deepest, depthOf(called, open));
        }
        open.pop();
        depths.put(method, deepest + 1);
        return deepest + 1;
    }

    public static void main(String[] args) throws IOException {
        read();
        check.yes("methods were read", calls.size() > 64);
        for (Element method : List.copyOf(calls.keySet())) {
            int depth = depthOf(method, new ArrayDeque<>());
            check.yes(method.getEnclosingElement() + "." + method + ", " + depth + " deep, is at most " + DEEPEST, depth <= DEEPEST);
        }
        check.end();
    }
}
