import com.sun.source.tree.ClassTree;
import com.sun.source.tree.CompilationUnitTree;
import com.sun.source.tree.MethodInvocationTree;
import com.sun.source.tree.MethodTree;
import com.sun.source.tree.NewClassTree;
import com.sun.source.util.JavacTask;
import com.sun.source.util.TreePathScanner;
import com.sun.source.util.Trees;
import java.io.File;
import java.util.HashMap;
import java.util.List;
import java.util.Map;
import java.util.Set;
import java.util.TreeSet;
import javax.lang.model.element.Element;
import javax.lang.model.element.ElementKind;
import javax.tools.JavaCompiler;
import javax.tools.StandardJavaFileManager;
import javax.tools.ToolProvider;

/** How deep the calls of a source go, as javac reads it. Nothing is overridden, so each call leads to one method. */
final class CallDepth {
    private static final int ENDLESS = 50;

    private final Map<String, Set<String>> calls = new HashMap<>();
    private final Map<String, Set<String>> callsOfFields = new HashMap<>();
    private final Map<String, Integer> depths = new HashMap<>();

    CallDepth(String file) throws Exception {
        JavaCompiler compiler = ToolProvider.getSystemJavaCompiler();
        try (StandardJavaFileManager files = compiler.getStandardFileManager(null, null, null)) {
            JavacTask task = (JavacTask) compiler.getTask(null, files, null, List.of("-proc:none"), null,
                files.getJavaFileObjects(new File(file)));
            Iterable<? extends CompilationUnitTree> units = task.parse();
            task.analyze();
            Finder finder = new Finder(Trees.instance(task));
            for (CompilationUnitTree unit : units) {
                finder.scan(unit, calls.computeIfAbsent("", none -> new TreeSet<>()));
            }
        }
        // What stands at the fields is called by each constructor.
        calls.forEach((method, of) -> {
            int end = method.indexOf(".<init>");
            of.addAll(callsOfFields.getOrDefault(method.substring(0, Math.max(end, 0)), Set.of()));
        });
    }

    int methods() {
        return calls.size();
    }

    /** Methods of the library count for nothing; more than ENDLESS where calls go round. */
    int deepest() {
        int deepest = 0;
        for (String method : calls.keySet()) {
            deepest = Math.max(deepest, depthOf(method, 0));
        }
        return deepest;
    }

    private int depthOf(String method, int above) {
        if (!calls.containsKey(method) || above > ENDLESS) {
            return above > ENDLESS ? ENDLESS : 0;
        }
        if (depths.containsKey(method)) {
            return depths.get(method);
        }
        int below = 0;
        for (String next : calls.get(method)) {
            below = Math.max(below, depthOf(next, above + 1));
        }
        depths.put(method, below + 1);
        return below + 1;
    }

    private static String nameOf(Element method) {
        String last = method.getKind() == ElementKind.CONSTRUCTOR ? "<init>" : "";
        return method.getEnclosingElement() + "." + last + method;
    }

    /** Puts each call into the set of the method that it stands in. */
    private final class Finder extends TreePathScanner<Void, Set<String>> {
        private final Trees trees;

        Finder(Trees trees) {
            this.trees = trees;
        }

        @Override
        public Void visitClass(ClassTree tree, Set<String> in) {
            String name = trees.getElement(getCurrentPath()).toString();
            return super.visitClass(tree, callsOfFields.computeIfAbsent(name, none -> new TreeSet<>()));
        }

        @Override
        public Void visitMethod(MethodTree tree, Set<String> in) {
            String name = nameOf(trees.getElement(getCurrentPath()));
            return super.visitMethod(tree, calls.computeIfAbsent(name, none -> new TreeSet<>()));
        }

        @Override
        public Void visitMethodInvocation(MethodInvocationTree tree, Set<String> in) {
            in.add(nameOf(trees.getElement(getCurrentPath())));
            return super.visitMethodInvocation(tree, in);
        }

        @Override
        public Void visitNewClass(NewClassTree tree, Set<String> in) {
            in.add(nameOf(trees.getElement(getCurrentPath())));
            return super.visitNewClass(tree, in);
        }
    }
}
