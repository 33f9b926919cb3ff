import com.sun.source.tree.CompilationUnitTree;
import com.sun.source.tree.MethodInvocationTree;
import com.sun.source.tree.MethodTree;
import com.sun.source.tree.NewClassTree;
import com.sun.source.util.JavacTask;
import com.sun.source.util.TreePath;
import com.sun.source.util.TreePathScanner;
import com.sun.source.util.Trees;
import java.util.ArrayList;
import java.util.HashMap;
import java.util.LinkedHashSet;
import java.util.List;
import java.util.Map;
import java.util.Set;
import javax.lang.model.element.Element;
import javax.lang.model.element.Modifier;
import javax.tools.JavaCompiler;
import javax.tools.StandardJavaFileManager;
import javax.tools.ToolProvider;

/** Rule 11 of LANGUAGE.md: calls go at most eight deep, the library's among them; none calls itself. */
public final class DepthTest {
    private static final Check CHECK = new Check("DepthTest");
    private static final int MOST_DEEP = 8;

    private final Map<Element, Set<Element>> calls = new HashMap<>();
    private final Map<Element, Integer> deep = new HashMap<>();

    public static void main(String[] args) throws Exception {
        new DepthTest().look();
        CHECK.close();
    }

    private void look() throws Exception {
        JavaCompiler compiler = ToolProvider.getSystemJavaCompiler();
        try (StandardJavaFileManager files = compiler.getStandardFileManager(null, null, null)) {
            JavacTask task = (JavacTask) compiler.getTask(null, files, null, List.of("-proc:none"), null, files.getJavaFileObjects("src/main/java/MoodTown.java"));
            CompilationUnitTree unit = task.parse().iterator().next();
            task.analyze();
            new Calls(Trees.instance(task)).scan(unit, null);
        }
        for (Element e : calls.keySet()) {
            if (e.getModifiers().contains(Modifier.PUBLIC)) {
                int found = depth(e, new ArrayList<>());
                CHECK.due(e + " goes " + found + " deep, at most eight", Math.max(found, MOST_DEEP), MOST_DEEP);
            }
        }
    }

    private int depth(Element e, List<Element> open) {
        if (deep.containsKey(e)) return deep.get(e);
        CHECK.due(e + " calls itself, by " + open, open.contains(e) ? 1 : 0, 0);
        if (open.contains(e)) return 0;
        open.add(e);
        int below = 0;
        for (Element called : calls.getOrDefault(e, Set.of())) below = Math.max(below, depth(called, open));
        open.remove(e);
        deep.put(e, below + 1);
        return below + 1;
    }

    private final class Calls extends TreePathScanner<Void, Void> {
        private final Trees trees;
        private Element in;

        Calls(Trees trees) { this.trees = trees; }

        @Override
        public Void visitMethod(MethodTree method, Void none) {
            in = trees.getElement(getCurrentPath());
            calls.put(in, new LinkedHashSet<>());
            return super.visitMethod(method, none);
        }

        @Override
        public Void visitMethodInvocation(MethodInvocationTree call, Void none) {
            add(trees.getElement(new TreePath(getCurrentPath(), call.getMethodSelect())));
            return super.visitMethodInvocation(call, none);
        }

        @Override
        public Void visitNewClass(NewClassTree made, Void none) {
            add(trees.getElement(getCurrentPath()));
            return super.visitNewClass(made, none);
        }

        private void add(Element called) {
            if (in != null && called != null) calls.get(in).add(called);
        }
    }
}
