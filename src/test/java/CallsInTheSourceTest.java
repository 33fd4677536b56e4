import com.sun.source.tree.AssignmentTree;
import com.sun.source.tree.CompilationUnitTree;
import com.sun.source.tree.MethodInvocationTree;
import com.sun.source.tree.MethodTree;
import com.sun.source.tree.NewArrayTree;
import com.sun.source.tree.NewClassTree;
import com.sun.source.tree.VariableTree;
import com.sun.source.util.JavacTask;
import com.sun.source.util.TreePath;
import com.sun.source.util.TreePathScanner;
import com.sun.source.util.Trees;
import java.io.File;
import java.io.IOException;
import java.util.HashSet;
import java.util.LinkedHashMap;
import java.util.List;
import java.util.Map;
import java.util.Set;
import java.util.TreeMap;
import javax.lang.model.element.Element;
import javax.lang.model.element.ElementKind;
import javax.lang.model.element.ExecutableElement;
import javax.lang.model.element.Modifier;
import javax.lang.model.element.TypeElement;
import javax.tools.JavaCompiler;
import javax.tools.StandardJavaFileManager;
import javax.tools.ToolProvider;

/**
 * Rules 4, 8, 11 and 12 of LANGUAGE.md, seen with the compiler's eyes: which method calls which, how deep
 * the calls go, what of the library is called, and who makes objects.
 */
public final class CallsInTheSourceTest {
    private static final File PROGRAM = new File("src/main/java/CaissonSinker.java");
    private static final int DEEPEST = 8;
    private static final int MOST_PARAMETERS = 7;
    private static final Set<String> LIBRARY = Set.of("Math.max", "Math.min", "Math.abs", "Math.floorDiv",
            "Math.floorMod", "System.arraycopy", "String.length", "String.charAt");

    private final Checks checks = new Checks("CallsInTheSourceTest");
    private final Map<Element, Set<Element>> calls = new LinkedHashMap<>();
    private final Set<Element> makers = new HashSet<>();
    private final Map<Element, Integer> depths = new LinkedHashMap<>();

    public static void main(String[] args) throws IOException {
        new CallsInTheSourceTest().go();
    }

    private void go() throws IOException {
        readProgram();
        Map<Integer, Integer> methodsByDepth = new TreeMap<>();
        for (Element method : calls.keySet()) {
            int depth = depthOf(method, new HashSet<>());
            methodsByDepth.merge(depth, 1, Integer::sum);
            checks.holds(method + " goes " + depth + " calls deep", depth <= DEEPEST);
            checks.holds(method + " takes too many parameters",
                    ((ExecutableElement) method).getParameters().size() <= MOST_PARAMETERS);
            checks.holds(method + " makes objects but is no constructor",
                    !makers.contains(method) || method.getKind() == ElementKind.CONSTRUCTOR);
        }
        // A reader that saw nothing would find no fault either.
        checks.holds("the calls were read: " + methodsByDepth, methodsByDepth.size() > 4 && calls.size() > 100);
        checks.finish();
    }

    /** How many calls stand open at once at most, this one among them. */
    private int depthOf(Element method, Set<Element> open) {
        if (depths.containsKey(method)) {
            return depths.get(method);
        }
        checks.holds(method + " calls itself", open.add(method));
        int deepest = 0;
        if (open.size() <= calls.size()) {
            for (Element called : calls.getOrDefault(method, Set.of())) {
                if (!open.contains(called)) {
                    deepest = Math.max(deepest, depthOf(called, open));
                } else {
                    checks.holds(method + " and " + called + " call each other", false);
                }
            }
        }
        open.remove(method);
        depths.put(method, deepest + 1);
        return deepest + 1;
    }

    private void readProgram() throws IOException {
        JavaCompiler compiler = ToolProvider.getSystemJavaCompiler();
        try (StandardJavaFileManager files = compiler.getStandardFileManager(null, null, null)) {
            JavacTask task = (JavacTask) compiler.getTask(null, files, null, List.of("--release", "17", "-proc:none"),
                    null, files.getJavaFileObjects(PROGRAM));
            Iterable<? extends CompilationUnitTree> units = task.parse();
            task.analyze();
            for (CompilationUnitTree unit : units) {
                new Reader(Trees.instance(task)).scan(unit, null);
            }
        }
    }

    private final class Reader extends TreePathScanner<Void, Element> {
        private final Trees trees;

        Reader(Trees trees) {
            this.trees = trees;
        }

        @Override
        public Void visitMethod(MethodTree tree, Element outer) {
            Element method = trees.getElement(getCurrentPath());
            calls.computeIfAbsent(method, made -> new HashSet<>());
            return super.visitMethod(tree, method);
        }

        /** What a field's initialiser makes is made by the constructors. */
        @Override
        public Void visitVariable(VariableTree tree, Element method) {
            Element variable = trees.getElement(getCurrentPath());
            if (variable.getKind() != ElementKind.FIELD || tree.getInitializer() == null) {
                return super.visitVariable(tree, method);
            }
            for (Element member : variable.getEnclosingElement().getEnclosedElements()) {
                if (member.getKind() == ElementKind.CONSTRUCTOR) {
                    calls.computeIfAbsent(member, made -> new HashSet<>());
                    TreePath initializer = new TreePath(getCurrentPath(), tree.getInitializer());
                    if (trees.getElement(initializer) instanceof ExecutableElement called) {
                        enter(member, called);
                    }
                }
            }
            return null;
        }

        @Override
        public Void visitMethodInvocation(MethodInvocationTree tree, Element method) {
            enter(method, trees.getElement(getCurrentPath()));
            return super.visitMethodInvocation(tree, method);
        }

        @Override
        public Void visitNewClass(NewClassTree tree, Element method) {
            makers.add(method);
            enter(method, trees.getElement(getCurrentPath()));
            return super.visitNewClass(tree, method);
        }

        @Override
        public Void visitNewArray(NewArrayTree tree, Element method) {
            makers.add(method);
            return super.visitNewArray(tree, method);
        }

        @Override
        public Void visitAssignment(AssignmentTree tree, Element method) {
            Element assigned = trees.getElement(new TreePath(getCurrentPath(), tree.getVariable()));
            checks.holds(tree + " changes static state", assigned == null || assigned.getKind() != ElementKind.FIELD
                    || !assigned.getModifiers().contains(Modifier.STATIC));
            return super.visitAssignment(tree, method);
        }

        private void enter(Element caller, Element called) {
            TypeElement owner = (TypeElement) called.getEnclosingElement();
            String name = owner.getQualifiedName().toString();
            if (name.startsWith("CaissonSinker")) {
                calls.computeIfAbsent(caller, made -> new HashSet<>()).add(called);
            } else if (!name.equals("java.lang.Object")) {
                String full = owner.getSimpleName() + "." + called.getSimpleName();
                checks.holds("not allowed: " + full, LIBRARY.contains(full));
            }
        }
    }
}
