import com.sun.source.tree.CatchTree;
import com.sun.source.tree.LambdaExpressionTree;
import com.sun.source.tree.MemberReferenceTree;
import com.sun.source.tree.MethodInvocationTree;
import com.sun.source.tree.MethodTree;
import com.sun.source.tree.NewArrayTree;
import com.sun.source.tree.NewClassTree;
import com.sun.source.tree.Tree;
import com.sun.source.util.JavacTask;
import com.sun.source.util.TreePathScanner;
import com.sun.source.util.Trees;
import java.io.File;
import java.io.IOException;
import java.util.HashMap;
import java.util.HashSet;
import java.util.LinkedHashMap;
import java.util.List;
import java.util.Map;
import java.util.Set;
import java.util.TreeSet;
import javax.lang.model.element.Element;
import javax.lang.model.element.ElementKind;
import javax.tools.JavaCompiler;
import javax.tools.StandardJavaFileManager;
import javax.tools.ToolProvider;

/**
 * LANGUAGE.md's rules 8, 11 and 12 as the compiler sees the source: calls that are no recursion go
 * at most eight deep, only one method calls itself, and only constructors, act and figure make objects.
 */
public final class CallsTest {
    private static final Check CHECK = new Check("CallsTest");
    private static final int DEEPEST = 8;

    private final Map<Element, Set<Element>> calls = new LinkedHashMap<>();
    private final Map<Element, Integer> depths = new HashMap<>();
    private final Set<String> makers = new TreeSet<>();
    private final Set<String> recursive = new TreeSet<>();

    public static void main(String[] args) throws IOException {
        CallsTest test = new CallsTest();
        test.scan(new File("src/main/java/SkyBox.java"));
        for (Element method : test.calls.keySet()) {
            int depth = test.depth(method, new HashSet<>());
            CHECK.due(name(method) + " goes " + depth + " deep", depth <= DEEPEST, true);
        }
        CHECK.due("methods that call themselves: " + test.recursive, test.recursive.equals(Set.of("Planner.extend")), true);
        CHECK.due("methods that make objects: " + test.makers, test.makers.equals(Set.of("SkyBox.act", "SkyBox.figure")), true);
        CHECK.end();
    }

    private void scan(File source) throws IOException {
        JavaCompiler compiler = ToolProvider.getSystemJavaCompiler();
        try (StandardJavaFileManager files = compiler.getStandardFileManager(null, null, null)) {
            JavacTask task = (JavacTask) compiler.getTask(null, files, null, List.of("-proc:none"), null,
                    files.getJavaFileObjects(source));
            var units = task.parse();
            task.analyze();
            Trees trees = Trees.instance(task);
            units.forEach(unit -> new Calls(trees).scan(unit, null));
        }
    }

    private static String name(Element method) {
        return method.getEnclosingElement().getSimpleName() + "." + method.getSimpleName();
    }

    /** How many calls stand open at once below a method, itself counted, recursion left out. */
    private int depth(Element method, Set<Element> open) {
        Integer known = depths.get(method);
        if (known != null) {
            return known;
        }
        open.add(method);
        int deepest = 0;
        for (Element called : calls.getOrDefault(method, Set.of())) {
            if (open.contains(called)) {
                recursive.add(name(called));
            } else if (calls.containsKey(called)) {
                deepest = Math.max(deepest, depth(called, open));
            }
        }
        open.remove(method);
        depths.put(method, deepest + 1);
        return deepest + 1;
    }

    private final class Calls extends TreePathScanner<Void, Void> {
        private final Trees trees;
        private Element method;

        Calls(Trees trees) {
            this.trees = trees;
        }

        @Override
        public Void visitMethod(MethodTree tree, Void none) {
            Element outer = method;
            method = trees.getElement(getCurrentPath());
            calls.putIfAbsent(method, new HashSet<>());
            super.visitMethod(tree, none);
            method = outer;
            return null;
        }

        private void called() {
            Element target = trees.getElement(getCurrentPath());
            if (method != null && target != null) {
                calls.get(method).add(target);
            }
        }

        private void made() {
            if (method != null && method.getKind() != ElementKind.CONSTRUCTOR) {
                makers.add(name(method));
            }
        }

        @Override
        public Void visitMethodInvocation(MethodInvocationTree tree, Void none) {
            called();
            return super.visitMethodInvocation(tree, none);
        }

        @Override
        public Void visitNewClass(NewClassTree tree, Void none) {
            called();
            made();
            CHECK.due("no class without a name", tree.getClassBody() == null, true);
            return super.visitNewClass(tree, none);
        }

        @Override
        public Void visitNewArray(NewArrayTree tree, Void none) {
            made();
            return super.visitNewArray(tree, none);
        }

        private Void forbidden(Tree tree) {
            CHECK.due("forbidden: " + tree, true, false);
            return null;
        }

        @Override
        public Void visitLambdaExpression(LambdaExpressionTree tree, Void none) {
            return forbidden(tree);
        }

        @Override
        public Void visitMemberReference(MemberReferenceTree tree, Void none) {
            return forbidden(tree);
        }

        @Override
        public Void visitCatch(CatchTree tree, Void none) {
            return forbidden(tree);
        }
    }
}
