import com.sun.source.tree.ClassTree;
import com.sun.source.tree.CompilationUnitTree;
import com.sun.source.tree.MethodInvocationTree;
import com.sun.source.tree.MethodTree;
import com.sun.source.tree.NewClassTree;
import com.sun.source.tree.VariableTree;
import com.sun.source.util.JavacTask;
import com.sun.source.util.TreePathScanner;
import com.sun.source.util.Trees;
import java.io.IOException;
import java.nio.file.Path;
import java.util.ArrayList;
import java.util.HashMap;
import java.util.LinkedHashMap;
import java.util.List;
import java.util.Map;
import java.util.Set;
import java.util.TreeSet;
import javax.lang.model.element.Element;
import javax.tools.JavaCompiler;
import javax.tools.StandardJavaFileManager;
import javax.tools.ToolProvider;

/** Who calls whom in the class, as the compiler reads it: rules 4, 8 and 11 of ../shared/LANGUAGE.md. */
public final class CallTests {
    private static final Path SOURCE = Path.of("src/main/java/AllPressed.java");
    private static final int DEEPEST = 8;
    /** What the class uses of the library that rule 4 lists; no more than this is needed. */
    private static final Set<String> LIBRARY = Set.of(
        "java.lang.Object.<init>", "java.lang.String.length", "java.lang.String.charAt", "java.lang.Integer.bitCount",
        "java.lang.Math.max", "java.lang.Math.min", "java.lang.Math.abs", "java.lang.Math.floorMod",
        "java.lang.System.arraycopy", "java.util.Arrays.fill");

    private final Map<String, Set<String>> calls = new LinkedHashMap<>();
    private final Set<String> fromLibrary = new TreeSet<>();
    private final Map<String, Integer> depths = new HashMap<>();

    public static void main(String[] args) throws IOException {
        CallTests tests = new CallTests();
        tests.readCalls();
        tests.libraryIsListed();
        tests.depthIsKept();
        Check.end();
    }

    private void readCalls() throws IOException {
        JavaCompiler compiler = ToolProvider.getSystemJavaCompiler();
        try (StandardJavaFileManager files = compiler.getStandardFileManager(null, null, null)) {
            JavacTask task = (JavacTask) compiler.getTask(null, files, null, List.of("-proc:none"), null,
                files.getJavaFileObjects(SOURCE));
            Iterable<? extends CompilationUnitTree> units = task.parse();
            task.analyze();
            Scanner scanner = new Scanner(Trees.instance(task));
            for (CompilationUnitTree unit : units) scanner.scan(unit, null);
        }
    }

    private static String nameOf(Element method) {
        return method.getEnclosingElement() + "." + method.getSimpleName();
    }

    /** A field's first value is worked out by its class's constructors. */
    private final class Scanner extends TreePathScanner<Void, Void> {
        private final Trees trees;
        private String within = "";
        private String classWithin = "";

        Scanner(Trees trees) {
            this.trees = trees;
        }

        @Override public Void visitClass(ClassTree tree, Void nothing) {
            String outer = classWithin;
            classWithin = trees.getElement(getCurrentPath()).toString();
            super.visitClass(tree, nothing);
            classWithin = outer;
            return null;
        }

        @Override public Void visitMethod(MethodTree tree, Void nothing) {
            within = nameOf(trees.getElement(getCurrentPath()));
            calls.computeIfAbsent(within, name -> new TreeSet<>());
            super.visitMethod(tree, nothing);
            within = "";
            return null;
        }

        @Override public Void visitVariable(VariableTree tree, Void nothing) {
            boolean isField = within.isEmpty();
            if (isField) within = classWithin + ".<init>";
            super.visitVariable(tree, nothing);
            if (isField) within = "";
            return null;
        }

        @Override public Void visitMethodInvocation(MethodInvocationTree tree, Void nothing) {
            add(trees.getElement(getCurrentPath()));
            return super.visitMethodInvocation(tree, nothing);
        }

        @Override public Void visitNewClass(NewClassTree tree, Void nothing) {
            add(trees.getElement(getCurrentPath()));
            return super.visitNewClass(tree, nothing);
        }

        private void add(Element called) {
            String name = nameOf(called);
            calls.computeIfAbsent(within, caller -> new TreeSet<>()).add(name);
            if (!name.startsWith("AllPressed.")) fromLibrary.add(name);
        }
    }

    private void libraryIsListed() {
        Check.holds("rule 4: calls were read", fromLibrary.contains("java.util.Arrays.fill"));
        for (String name : fromLibrary) Check.holds("rule 4: " + name, LIBRARY.contains(name));
    }

    private void depthIsKept() {
        int deepest = 0;
        for (String name : calls.keySet()) deepest = Math.max(deepest, depthOf(name, new ArrayList<>()));
        Check.holds("rule 11: calls go " + deepest + " deep", deepest > 4 && deepest <= DEEPEST);
    }

    private int depthOf(String name, List<String> open) {
        if (open.contains(name)) {
            Check.holds("rule 8: " + name + " calls itself by " + open, false);
            return DEEPEST;
        }
        Integer known = depths.get(name);
        if (known != null) return known;
        open.add(name);
        int below = 0;
        for (String called : calls.getOrDefault(name, Set.of())) below = Math.max(below, depthOf(called, open));
        open.remove(open.size() - 1);
        depths.put(name, below + 1);
        return below + 1;
    }
}
