import com.sun.source.tree.CompilationUnitTree;
import com.sun.source.tree.MethodInvocationTree;
import com.sun.source.tree.MethodTree;
import com.sun.source.tree.NewClassTree;
import com.sun.source.util.JavacTask;
import com.sun.source.util.TreePathScanner;
import com.sun.source.util.Trees;
import java.io.File;
import java.util.ArrayList;
import java.util.HashMap;
import java.util.HashSet;
import java.util.LinkedHashSet;
import java.util.List;
import java.util.Map;
import java.util.Set;
import javax.lang.model.element.Element;
import javax.lang.model.element.Modifier;
import javax.tools.JavaCompiler;
import javax.tools.StandardJavaFileManager;
import javax.tools.ToolProvider;

/** Rules 8 and 11 of LANGUAGE.md: how deep calls go, as the compiler itself understands the source. */
public final class DepthTest {
    private static final int DEEPEST = 8;
    private static final Check C = new Check();
    private static final Map<Element, Set<Element>> CALLS = new HashMap<>();

    public static void main(String[] args) throws Exception {
        JavaCompiler compiler = ToolProvider.getSystemJavaCompiler();
        try (StandardJavaFileManager files = compiler.getStandardFileManager(null, null, null)) {
            JavacTask task = (JavacTask) compiler.getTask(null, files, null, List.of("-proc:none"), null,
                    files.getJavaFileObjects(new File("src/main/java/MoonReapers.java")));
            Iterable<? extends CompilationUnitTree> units = task.parse();
            task.analyze();
            Trees trees = Trees.instance(task);
            for (CompilationUnitTree unit : units) {
                new Calls(trees).scan(unit, null);
            }
        }
        for (Element method : CALLS.keySet()) {
            if (method.getModifiers().contains(Modifier.PUBLIC)) {
                List<Element> chain = deepest(method, new HashSet<>());
                C.holds(chain.size() + " deep: " + chain, chain.size() <= DEEPEST);
            }
        }
        C.holds("the calls of the face were found", CALLS.size() > 42);
        C.finish();
    }

    /** The longest chain of calls from a method on, the library's own calls being its last; recursion is left out. */
    private static List<Element> deepest(Element method, Set<Element> open) {
        List<Element> longest = new ArrayList<>();
        open.add(method);
        for (Element called : CALLS.getOrDefault(method, Set.of())) {
            if (!open.contains(called)) {
                List<Element> chain = deepest(called, open);
                if (chain.size() > longest.size()) {
                    longest = chain;
                }
            }
        }
        open.remove(method);
        longest.add(0, method);
        return longest;
    }

    private static final class Calls extends TreePathScanner<Void, Void> {
        private final Trees trees;
        private Element inside;

        Calls(Trees trees) {
            this.trees = trees;
        }

        @Override
        public Void visitMethod(MethodTree tree, Void none) {
            inside = trees.getElement(getCurrentPath());
            CALLS.putIfAbsent(inside, new LinkedHashSet<>());
            super.visitMethod(tree, none);
            inside = null;
            return null;
        }

        @Override
        public Void visitMethodInvocation(MethodInvocationTree tree, Void none) {
            note(trees.getElement(getCurrentPath()));
            return super.visitMethodInvocation(tree, none);
        }

        @Override
        public Void visitNewClass(NewClassTree tree, Void none) {
            note(trees.getElement(getCurrentPath()));
            return super.visitNewClass(tree, none);
        }

        private void note(Element called) {
            if (inside != null && called != null) {
                CALLS.get(inside).add(called);
            }
        }
    }
}
