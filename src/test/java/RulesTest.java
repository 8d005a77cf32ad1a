import com.sun.source.tree.ClassTree;
import com.sun.source.tree.CompilationUnitTree;
import com.sun.source.tree.ForLoopTree;
import com.sun.source.tree.MethodInvocationTree;
import com.sun.source.tree.MethodTree;
import com.sun.source.tree.NewClassTree;
import com.sun.source.tree.Tree;
import com.sun.source.tree.VariableTree;
import com.sun.source.util.JavacTask;
import com.sun.source.util.TreePathScanner;
import com.sun.source.util.Trees;
import java.io.IOException;
import java.nio.file.Path;
import java.util.ArrayDeque;
import java.util.Deque;
import java.util.LinkedHashMap;
import java.util.LinkedHashSet;
import java.util.Map;
import java.util.Set;
import javax.lang.model.element.Element;
import javax.lang.model.element.Modifier;
import javax.tools.JavaCompiler;
import javax.tools.StandardJavaFileManager;
import javax.tools.ToolProvider;

/** Rules of LANGUAGE.md that the compiler's tree of the class shows: what it calls, how deep calls go, what its loops have. */
public final class RulesTest extends TreePathScanner<Void, Void> {
    private static final Path SOURCE = Path.of("src/main/java/MoustacheState.java");
    private static final int DEEPEST = 8;
    private static final int MOST_FIELDS = 20;
    private static final int MOST_CLASSES = 12;
    // Rule 4 has more; what the class has no need of is not on this list.
    private static final Set<String> LIBRARY = Set.of("java.lang.Object", "java.lang.String.length", "java.lang.String.charAt",
            "java.lang.Math.min", "java.lang.Math.max", "java.lang.Math.abs", "java.lang.Integer.bitCount", "java.lang.System.arraycopy");

    private final Trees trees;
    private final Map<Element, Set<Element>> calls = new LinkedHashMap<>();
    private final Deque<Element> open = new ArrayDeque<>();
    private Element method;
    private int classes;

    private RulesTest(Trees trees) {
        this.trees = trees;
    }

    public static void main(String[] args) throws IOException {
        JavaCompiler javac = ToolProvider.getSystemJavaCompiler();
        try (StandardJavaFileManager files = javac.getStandardFileManager(null, null, null)) {
            JavacTask task = (JavacTask) javac.getTask(null, files, null, null, null, files.getJavaFileObjects(SOURCE));
            Iterable<? extends CompilationUnitTree> units = task.parse();
            task.analyze();
            RulesTest rules = new RulesTest(Trees.instance(task));
            rules.scan(units, null);
            rules.callsGoDown();
            Checks.due("rule 11: some twelve classes", rules.classes <= MOST_CLASSES, true);
        }
        Checks.end();
    }

    @Override
    public Void visitClass(ClassTree tree, Void none) {
        classes++;
        int fields = 0;
        for (Tree member : tree.getMembers()) {
            if (member instanceof VariableTree field) {
                Set<Modifier> modifiers = field.getModifiers().getFlags();
                fields += modifiers.contains(Modifier.STATIC) ? 0 : 1;
                Checks.due("rule 5: static " + field.getName() + " is final",
                        modifiers.contains(Modifier.STATIC) && !modifiers.contains(Modifier.FINAL), false);
            }
        }
        Checks.due("rule 11: " + fields + " fields of " + tree.getSimpleName(), fields <= MOST_FIELDS, true);
        return super.visitClass(tree, none);
    }

    @Override
    public Void visitMethod(MethodTree tree, Void none) {
        method = trees.getElement(getCurrentPath());
        calls.putIfAbsent(method, new LinkedHashSet<>());
        super.visitMethod(tree, none);
        method = null;
        return null;
    }

    @Override
    public Void visitMethodInvocation(MethodInvocationTree tree, Void none) {
        noteCall();
        return super.visitMethodInvocation(tree, none);
    }

    @Override
    public Void visitNewClass(NewClassTree tree, Void none) {
        noteCall();
        return super.visitNewClass(tree, none);
    }

    @Override
    public Void visitForLoop(ForLoopTree tree, Void none) {
        Checks.due("rule 9: " + tree + " has an end", tree.getCondition() != null && !tree.getUpdate().isEmpty(), true);
        return super.visitForLoop(tree, none);
    }

    private void noteCall() {
        Element called = trees.getElement(getCurrentPath());
        String owner = called.getEnclosingElement().toString();
        if (!owner.startsWith("MoustacheState")) {
            String name = owner + "." + called.getSimpleName();
            Checks.due("rule 4: " + name, LIBRARY.contains(name) || LIBRARY.contains(owner), true);
        } else if (method != null) {
            calls.get(method).add(called);
        }
    }

    private void callsGoDown() {
        for (Element from : calls.keySet()) {
            int depth = depth(from);
            Checks.due("rule 11: calls from " + from + " go " + depth + " deep", depth <= DEEPEST, true);
        }
    }

    /** How many calls stand open at once, those of a recursion once each. */
    private int depth(Element from) {
        int deepest = 0;
        open.push(from);
        for (Element called : calls.getOrDefault(from, Set.of())) {
            if (!open.contains(called)) {
                deepest = Math.max(deepest, depth(called));
            }
        }
        open.pop();
        return deepest + 1;
    }
}
