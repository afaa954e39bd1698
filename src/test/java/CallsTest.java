import com.sun.source.tree.ClassTree;
import com.sun.source.tree.CompilationUnitTree;
import com.sun.source.tree.MethodInvocationTree;
import com.sun.source.tree.MethodTree;
import com.sun.source.tree.NewClassTree;
import com.sun.source.tree.ThrowTree;
import com.sun.source.util.JavacTask;
import com.sun.source.util.TreePathScanner;
import com.sun.source.util.Trees;
import java.io.IOException;
import java.nio.file.Path;
import java.util.HashMap;
import java.util.List;
import java.util.Map;
import java.util.Set;
import java.util.TreeMap;
import java.util.TreeSet;
import javax.lang.model.element.Element;
import javax.tools.JavaCompiler;
import javax.tools.StandardJavaFileManager;
import javax.tools.ToolProvider;

/** Which method calls which, as the compiler sees it: how deep calls go, what of the library they use, what throws. */
public final class CallsTest {
    private static final Check CHECK = new Check();
    private static final Path SOURCE = Path.of("src/main/java/PenPage.java");
    private static final int MOST_DEEP = 8;
    private static final Set<String> LIBRARY = Set.of("java.lang.Math.max", "java.lang.Math.min",
            "java.lang.System.arraycopy", "java.util.Arrays.copyOf", "java.util.Arrays.fill",
            "java.lang.Object.<init>", "java.lang.IllegalArgumentException.<init>",
            "java.util.NoSuchElementException.<init>");
    private static final Set<String> RECURSIVE = Set.of("PenPage.Story.walk");

    /** Own methods that a method calls, by names with their classes. */
    private final Map<String, Set<String>> calls = new TreeMap<>();
    private final Map<String, Integer> depths = new HashMap<>();

    public static void main(String[] args) throws IOException {
        CallsTest test = new CallsTest();
        test.read();
        CHECK.yes("the source was read", test.calls.size() > 25);
        for (String method : test.calls.keySet()) {
            int depth = test.depthOf(method, 0);
            CHECK.yes("11: calls from " + method + " go " + depth + " deep", depth <= MOST_DEEP);
        }
        CHECK.finish();
    }

    private void read() throws IOException {
        JavaCompiler compiler = ToolProvider.getSystemJavaCompiler();
        try (StandardJavaFileManager files = compiler.getStandardFileManager(null, null, null)) {
            JavacTask task = (JavacTask) compiler.getTask(null, files, null, List.of("-proc:none"), null,
                    files.getJavaFileObjects(SOURCE));
            Iterable<? extends CompilationUnitTree> units = task.parse();
            task.analyze();
            Finder finder = new Finder(Trees.instance(task));
            for (CompilationUnitTree unit : units) {
                finder.scan(unit, null);
            }
        }
    }

    /** How many calls stand open at once behind a method's, itself among them; a recursion's own levels aren't counted. */
    private int depthOf(String method, int open) {
        if (depths.containsKey(method)) {
            return depths.get(method);
        }
        if (open > 100) {
            CHECK.yes("8: " + method + " calls itself by others", false);
            return 0;
        }
        int deepest = 0;
        for (String called : calls.getOrDefault(method, Set.of())) {
            if (called.equals(method)) {
                CHECK.yes("8: " + method + " calls itself", RECURSIVE.contains(method));
            } else {
                deepest = Math.max(deepest, depthOf(called, open + 1));
            }
        }
        depths.put(method, deepest + 1);
        return deepest + 1;
    }

    /** Walks over the source and writes down its calls. */
    private final class Finder extends TreePathScanner<Void, Void> {
        private final Trees trees;
        private String inClass = "";
        private String inMethod = "";

        Finder(Trees trees) {
            this.trees = trees;
        }

        @Override
        public Void visitClass(ClassTree tree, Void nothing) {
            String outer = inClass;
            inClass = outer.isEmpty() ? tree.getSimpleName().toString() : outer + "." + tree.getSimpleName();
            super.visitClass(tree, nothing);
            inClass = outer;
            return null;
        }

        @Override
        public Void visitMethod(MethodTree tree, Void nothing) {
            inMethod = inClass + "." + tree.getName();
            boolean first = calls.put(inMethod, new TreeSet<>()) == null;
            CHECK.yes(inMethod + " has a name of its own in its class", first);
            super.visitMethod(tree, nothing);
            inMethod = "";
            return null;
        }

        @Override
        public Void visitMethodInvocation(MethodInvocationTree tree, Void nothing) {
            note(trees.getElement(getCurrentPath()));
            return super.visitMethodInvocation(tree, nothing);
        }

        @Override
        public Void visitNewClass(NewClassTree tree, Void nothing) {
            note(trees.getElement(getCurrentPath()));
            return super.visitNewClass(tree, nothing);
        }

        @Override
        public Void visitThrow(ThrowTree tree, Void nothing) {
            CHECK.yes("6: " + inMethod + " throws a new one", tree.getExpression() instanceof NewClassTree);
            CHECK.yes("6: no throw in a constructor: " + inMethod, !inMethod.endsWith("<init>"));
            return super.visitThrow(tree, nothing);
        }

        private void note(Element called) {
            String name = called.getEnclosingElement() + "." + called.getSimpleName();
            if (!name.startsWith("PenPage.")) {
                CHECK.yes("4: " + inMethod + " uses " + name, LIBRARY.contains(name));
            } else if (!inMethod.isEmpty()) {
                calls.get(inMethod).add(name);
            }
        }
    }
}
