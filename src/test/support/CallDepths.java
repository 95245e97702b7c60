import com.sun.source.tree.CompilationUnitTree;
import com.sun.source.tree.MethodInvocationTree;
import com.sun.source.tree.MethodTree;
import com.sun.source.tree.NewClassTree;
import com.sun.source.util.JavacTask;
import com.sun.source.util.TreePathScanner;
import com.sun.source.util.Trees;
import java.io.IOException;
import java.nio.file.Path;
import java.util.ArrayList;
import java.util.HashMap;
import java.util.LinkedHashMap;
import java.util.List;
import java.util.Map;
import java.util.Set;
import java.util.TreeSet;
import javax.lang.model.element.Element;
import javax.tools.JavaCompiler;
import javax.tools.StandardJavaFileManager;
import javax.tools.ToolProvider;

/** How deep the calls of a source file go, by the compiler's own reading of it. */
final class CallDepths {
    private final Map<String, Set<String>> calls = new LinkedHashMap<>();
    private final Map<String, List<String>> deepest = new HashMap<>();

    CallDepths(Path source) throws IOException {
        JavaCompiler compiler = ToolProvider.getSystemJavaCompiler();
        try (StandardJavaFileManager files = compiler.getStandardFileManager(null, null, null)) {
            JavacTask task = (JavacTask) compiler.getTask(null, files, null, List.of("-proc:none"), null,
                    files.getJavaFileObjects(source));
            Iterable<? extends CompilationUnitTree> units = task.parse();
            task.analyze();
            Collector collector = new Collector(Trees.instance(task));
            for (CompilationUnitTree unit : units) {
                collector.scan(unit, null);
            }
        }
    }

    Set<String> methods() {
        return calls.keySet();
    }

    /** The longest chain of calls that begins with a method, the method itself included. */
    List<String> deepestFrom(String method) {
        return deepestFrom(method, List.of());
    }

    private List<String> deepestFrom(String method, List<String> above) {
        if (above.contains(method)) {
            throw new IllegalStateException(method + " is called by itself: " + above);
        }
        if (!deepest.containsKey(method)) {
            List<String> longest = List.of();
            for (String callee : calls.getOrDefault(method, Set.of())) {
                List<String> chain = deepestFrom(callee, joined(above, List.of(method)));
                longest = chain.size() > longest.size() ? chain : longest;
            }
            deepest.put(method, joined(List.of(method), longest));
        }
        return deepest.get(method);
    }

    private static List<String> joined(List<String> first, List<String> second) {
        List<String> all = new ArrayList<>(first);
        all.addAll(second);
        return all;
    }

    private final class Collector extends TreePathScanner<Void, Void> {
        private final Trees trees;
        private String caller;

        Collector(Trees trees) {
            this.trees = trees;
        }

        @Override
        public Void visitMethod(MethodTree node, Void nothing) {
            String outer = caller;
            caller = here();
            calls.put(caller, new TreeSet<>());
            super.visitMethod(node, nothing);
            caller = outer;
            return null;
        }

        @Override
        public Void visitMethodInvocation(MethodInvocationTree node, Void nothing) {
            return called(super.visitMethodInvocation(node, nothing));
        }

        @Override
        public Void visitNewClass(NewClassTree node, Void nothing) {
            return called(super.visitNewClass(node, nothing));
        }

        private Void called(Void nothing) {
            if (caller != null) {
                calls.get(caller).add(here());
            }
            return nothing;
        }

        private String here() {
            Element element = trees.getElement(getCurrentPath());
            return element.getEnclosingElement().getSimpleName() + "." + element;
        }
    }
}
