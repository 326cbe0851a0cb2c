import com.sun.source.tree.ClassTree;
import com.sun.source.tree.CompilationUnitTree;
import com.sun.source.tree.MethodInvocationTree;
import com.sun.source.tree.MethodTree;
import com.sun.source.tree.NewArrayTree;
import com.sun.source.tree.NewClassTree;
import com.sun.source.tree.Tree;
import com.sun.source.util.JavacTask;
import com.sun.source.util.TreePathScanner;
import com.sun.source.util.Trees;
import java.nio.file.Path;
import java.util.HashMap;
import java.util.HashSet;
import java.util.List;
import java.util.Map;
import java.util.Set;
import java.util.TreeSet;
import javax.lang.model.element.Element;
import javax.lang.model.element.ElementKind;
import javax.lang.model.element.ExecutableElement;
import javax.lang.model.element.Modifier;
import javax.lang.model.element.TypeElement;
import javax.tools.JavaCompiler;
import javax.tools.StandardJavaFileManager;
import javax.tools.ToolProvider;

/** Rules 4, 8, 11 and 12 of LANGUAGE.md, that a look at who calls whom can tell. */
public final class CallsTest extends TreePathScanner<Void, ExecutableElement> {
    private static final Set<String> LIBRARY = Set.of("java.lang.Math.max", "java.lang.Math.min",
        "java.lang.Integer.bitCount", "java.lang.String.length", "java.lang.String.charAt", "java.lang.System.arraycopy");
    private static final int DEEPEST = 8;
    private static final int LONGEST = 60;

    private final JavacTask task;
    private final Trees trees;
    private final CompilationUnitTree unit;
    private final Map<ExecutableElement, Set<ExecutableElement>> calls = new HashMap<>();
    private final Set<TypeElement> classes = new HashSet<>();

    private CallsTest(JavacTask task, CompilationUnitTree unit) {
        this.task = task;
        this.unit = unit;
        trees = Trees.instance(task);
    }

    public static void main(String[] args) throws Exception {
        JavaCompiler compiler = ToolProvider.getSystemJavaCompiler();
        try (StandardJavaFileManager files = compiler.getStandardFileManager(null, null, null)) {
            Path source = Path.of(System.getProperty("source", "src/main/java/ToWhoNeeds.java"));
            JavacTask task = (JavacTask) compiler.getTask(null, files, null, List.of("-proc:none"), null,
                files.getJavaFileObjects(source));
            CompilationUnitTree unit = task.parse().iterator().next();
            task.analyze();
            CallsTest test = new CallsTest(task, unit);
            test.scan(unit, null);
            test.depths();
        }
        Check.end();
    }

    @Override
    public Void visitClass(ClassTree tree, ExecutableElement in) {
        classes.add((TypeElement) trees.getElement(getCurrentPath()));
        return super.visitClass(tree, in);
    }

    @Override
    public Void visitMethod(MethodTree tree, ExecutableElement in) {
        ExecutableElement method = (ExecutableElement) trees.getElement(getCurrentPath());
        calls.putIfAbsent(method, new HashSet<>());
        int lines = lineOf(tree, true) - lineOf(tree, false) + 1;
        Check.due("rule 11: " + method + " is short", lines <= LONGEST ? 1 : 0, 1);
        Check.due("rule 11: " + method + " takes few", method.getParameters().size() <= 7 ? 1 : 0, 1);
        return super.visitMethod(tree, method);
    }

    private int lineOf(Tree tree, boolean isEnd) {
        long at = isEnd ? trees.getSourcePositions().getEndPosition(unit, tree)
            : trees.getSourcePositions().getStartPosition(unit, tree);
        return (int) unit.getLineMap().getLineNumber(at);
    }

    @Override
    public Void visitMethodInvocation(MethodInvocationTree tree, ExecutableElement in) {
        ExecutableElement called = (ExecutableElement) trees.getElement(getCurrentPath());
        TypeElement owner = (TypeElement) called.getEnclosingElement();
        if (isOwn(owner)) {
            calls.computeIfAbsent(in, key -> new HashSet<>()).add(called);
        } else if (called.getKind() != ElementKind.CONSTRUCTOR) {
            String name = owner.getQualifiedName() + "." + called.getSimpleName();
            Check.due("rule 4: " + name, LIBRARY.contains(name) ? 1 : 0, 1);
        }
        return super.visitMethodInvocation(tree, in);
    }

    private static boolean isOwn(Element type) {
        Element at = type;
        while (at.getEnclosingElement() instanceof TypeElement) {
            at = at.getEnclosingElement();
        }
        return at.getSimpleName().contentEquals("ToWhoNeeds");
    }

    @Override
    public Void visitNewClass(NewClassTree tree, ExecutableElement in) {
        isMadeWithTheObject(in, "an object");
        return super.visitNewClass(tree, in);
    }

    @Override
    public Void visitNewArray(NewArrayTree tree, ExecutableElement in) {
        isMadeWithTheObject(in, "an array");
        return super.visitNewArray(tree, in);
    }

    /** All calls of a run live in one room: what a call needs is made once, with its object. */
    private static void isMadeWithTheObject(ExecutableElement in, String what) {
        boolean isThen = in == null || in.getKind() == ElementKind.CONSTRUCTOR;
        Check.due("rule 12: " + in + " makes " + what, isThen ? 1 : 0, 1);
    }

    private void depths() {
        TreeSet<String> seen = new TreeSet<>();
        for (ExecutableElement method : calls.keySet()) {
            if (method.getModifiers().contains(Modifier.PUBLIC)) {
                int deep = depth(method, new HashSet<>());
                Check.due("rule 11: calls go " + deep + " deep from " + method, deep <= DEEPEST ? 1 : 0, 1);
                seen.add(method.getSimpleName().toString());
            }
        }
        Check.due("the face with its constructor, seen " + seen, seen.size(), 37);
    }

    private int depth(ExecutableElement method, Set<ExecutableElement> open) {
        if (!open.add(method)) {
            Check.fault("rule 8: " + method + " calls itself");
            return 0;
        }
        int deepest = 0;
        for (ExecutableElement called : calls.getOrDefault(method, Set.of())) {
            for (ExecutableElement real : realOf(called)) {
                deepest = Math.max(deepest, depth(real, open));
            }
        }
        open.remove(method);
        return deepest + 1;
    }

    /** The method and all that stand for it in other classes. */
    private Set<ExecutableElement> realOf(ExecutableElement called) {
        Set<ExecutableElement> real = new HashSet<>(Set.of(called));
        for (ExecutableElement other : calls.keySet()) {
            TypeElement owner = (TypeElement) other.getEnclosingElement();
            if (classes.contains(owner) && task.getElements().overrides(other, called, owner)) {
                real.add(other);
            }
        }
        return real;
    }
}
