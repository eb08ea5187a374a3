import com.sun.source.tree.CompilationUnitTree;
import com.sun.source.tree.MethodInvocationTree;
import com.sun.source.tree.MethodTree;
import com.sun.source.tree.NewClassTree;
import com.sun.source.util.JavacTask;
import com.sun.source.util.TreePathScanner;
import com.sun.source.util.Trees;
import java.io.IOException;
import java.nio.file.Path;
import java.util.HashSet;
import java.util.List;
import java.util.Map;
import java.util.Set;
import java.util.TreeMap;
import java.util.TreeSet;
import javax.lang.model.element.Element;
import javax.tools.JavaCompiler;
import javax.tools.StandardJavaFileManager;
import javax.tools.ToolProvider;

/** The rules of LANGUAGE.md about calls, as the compiler sees them: which of the library, how deep, no circle. */
public final class CallsTest {
    private static final Path SOURCE = Path.of("src/main/java/DowryFund.java");
    private static final Set<String> LIBRARY = Set.of("java.lang.Math.max", "java.lang.Math.min",
        "java.util.Arrays.fill", "java.lang.Object.<init>");
    private static final int DEEPEST = 8;

    private static int wrong = 0;

    private final Map<String, Set<String>> calls = new TreeMap<>();

    public static void main(String[] args) throws IOException {
        CallsTest test = new CallsTest();
        test.read();
        test.library();
        test.depths();
        if (wrong != 0) {
            System.exit(1);
        }
    }

    private static void fault(String text) {
        wrong++;
        System.out.println(text);
    }

    private void read() throws IOException {
        JavaCompiler compiler = ToolProvider.getSystemJavaCompiler();
        try (StandardJavaFileManager files = compiler.getStandardFileManager(null, null, null)) {
            JavacTask task = (JavacTask) compiler.getTask(null, files, null, List.of("-proc:none"), null,
                files.getJavaFileObjects(SOURCE));
            Iterable<? extends CompilationUnitTree> units = task.parse();
            task.analyze();
            for (CompilationUnitTree unit : units) {
                new Reader(Trees.instance(task), calls).scan(unit, null);
            }
        }
        if (!calls.containsKey("DowryFund.months")) {
            fault("the source could not be read");
        }
    }

    private static String nameOf(Element method) {
        return method.getEnclosingElement() + "." + method.getSimpleName();
    }

    private static boolean isOwn(String method) {
        return method.startsWith("DowryFund.");
    }

    private void library() {
        for (Map.Entry<String, Set<String>> of : calls.entrySet()) {
            for (String called : of.getValue()) {
                if (!isOwn(called) && !LIBRARY.contains(called)) {
                    fault(of.getKey() + " calls " + called);
                }
            }
        }
    }

    private void depths() {
        for (String method : calls.keySet()) {
            int depth = depth(method, new HashSet<>());
            if (depth > DEEPEST) {
                fault(method + " goes " + depth + " deep");
            }
        }
    }

    /** A method itself is one deep. */
    private int depth(String method, Set<String> open) {
        if (!open.add(method)) {
            fault(method + " comes back to itself");
            return 0;
        }
        int deepest = 0;
        for (String called : calls.getOrDefault(method, Set.of())) {
            deepest = Math.max(deepest, depth(called, open));
        }
        open.remove(method);
        return 1 + deepest;
    }

    /** Methods of one name count as one: the class has no others. */
    private static final class Reader extends TreePathScanner<Void, Void> {
        private final Trees trees;
        private final Map<String, Set<String>> calls;
        private String method = null;

        Reader(Trees trees, Map<String, Set<String>> calls) {
            this.trees = trees;
            this.calls = calls;
        }

        private void called() {
            Element e = trees.getElement(getCurrentPath());
            if (method == null || e == null) {
                fault("a call outside a method, or of what isn't known: " + getCurrentPath().getLeaf());
            } else {
                calls.get(method).add(nameOf(e));
            }
        }

        @Override
        public Void visitMethod(MethodTree tree, Void none) {
            method = nameOf(trees.getElement(getCurrentPath()));
            if (calls.put(method, new TreeSet<>()) != null) {
                fault("two methods bear the name " + method);
            }
            super.visitMethod(tree, none);
            method = null;
            return none;
        }

        @Override
        public Void visitMethodInvocation(MethodInvocationTree tree, Void none) {
            called();
            return super.visitMethodInvocation(tree, none);
        }

        @Override
        public Void visitNewClass(NewClassTree tree, Void none) {
            called();
            return super.visitNewClass(tree, none);
        }
    }
}
