import com.sun.source.tree.AssertTree;
import com.sun.source.tree.BlockTree;
import com.sun.source.tree.ClassTree;
import com.sun.source.tree.CompilationUnitTree;
import com.sun.source.tree.ImportTree;
import com.sun.source.tree.LambdaExpressionTree;
import com.sun.source.tree.MemberReferenceTree;
import com.sun.source.tree.MethodInvocationTree;
import com.sun.source.tree.MethodTree;
import com.sun.source.tree.NewClassTree;
import com.sun.source.tree.SynchronizedTree;
import com.sun.source.tree.ThrowTree;
import com.sun.source.tree.Tree;
import com.sun.source.tree.TryTree;
import com.sun.source.tree.VariableTree;
import com.sun.source.tree.ArrayAccessTree;
import com.sun.source.tree.BinaryTree;
import com.sun.source.tree.TypeCastTree;
import com.sun.source.util.JavacTask;
import com.sun.source.util.TreePath;
import com.sun.source.util.TreePathScanner;
import com.sun.source.util.Trees;
import java.io.File;
import java.util.ArrayList;
import java.util.HashMap;
import java.util.HashSet;
import java.util.List;
import java.util.Map;
import java.util.Set;
import java.util.TreeSet;
import javax.lang.model.element.Element;
import javax.lang.model.element.ExecutableElement;
import javax.lang.model.element.Modifier;
import javax.tools.JavaCompiler;
import javax.tools.StandardJavaFileManager;
import javax.tools.ToolProvider;

/** The rules of LANGUAGE.md that can be seen in the source: run from the project's folder. */
public final class LanguageTest extends TreePathScanner<Void, Void> {
    private static final String SOURCE = "src/main/java/SplitClocks.java";
    private static final Set<String> IMPORTS = Set.of("java.util.Arrays", "java.util.NoSuchElementException");
    private static final Set<String> LIBRARY = Set.of(
        "java.lang.Math.max", "java.lang.Math.min", "java.lang.System.arraycopy", "java.util.Arrays.copyOf");
    private static final Set<String> THROWN = Set.of("NoSuchElementException");
    private static final int MOST_PARAMETERS = 7;
    private static final int MOST_LINES = 60;
    private static final int MOST_CLASSES = 12;
    private static final int MOST_FIELDS = 20;
    private static final int MOST_CALLS_DEEP = 8;

    private final Checks checks = new Checks("language");
    private final Map<String, Set<String>> calls = new HashMap<>();
    private final Set<String> face = new TreeSet<>();
    private final Set<String> hidden = new TreeSet<>();
    private int classes;
    private Trees trees;
    private CompilationUnitTree unit;

    public static void main(String[] args) throws Exception {
        new LanguageTest().go();
    }

    private void go() throws Exception {
        JavaCompiler compiler = ToolProvider.getSystemJavaCompiler();
        try (StandardJavaFileManager files = compiler.getStandardFileManager(null, null, null)) {
            JavacTask task = (JavacTask) compiler.getTask(null, files, null, List.of("-proc:none"), null,
                files.getJavaFileObjects(new File(SOURCE)));
            trees = Trees.instance(task);
            unit = task.parse().iterator().next();
            task.analyze();
            checks.yes("no package", unit.getPackage() == null);
            checks.due("top classes", unit.getTypeDecls().size(), 1);
            scan(unit, null);
        }
        checks.yes(classes + " classes", classes <= MOST_CLASSES);
        for (String name : hidden) {
            checks.no(name + " has the name of a public method", face.contains(name));
        }
        callDepth();
        checks.close();
    }

    @Override
    public Void visitImport(ImportTree t, Void v) {
        checks.yes("import " + t.getQualifiedIdentifier(), IMPORTS.contains(t.getQualifiedIdentifier().toString()));
        return super.visitImport(t, v);
    }

    @Override
    public Void visitClass(ClassTree t, Void v) {
        classes++;
        boolean inside = getCurrentPath().getParentPath().getLeaf() instanceof ClassTree;
        checks.yes(t.getSimpleName() + " is static", !inside || t.getModifiers().getFlags().contains(Modifier.STATIC));
        int fields = 0;
        for (Tree member : t.getMembers()) {
            checks.no("an initialiser block in " + t.getSimpleName(), member instanceof BlockTree);
            if (member instanceof VariableTree field) {
                Set<Modifier> flags = field.getModifiers().getFlags();
                boolean still = flags.contains(Modifier.STATIC);
                checks.yes("static " + field.getName() + " is final", !still || flags.contains(Modifier.FINAL));
                fields += still ? 0 : 1;
            }
        }
        checks.yes(t.getSimpleName() + " has " + fields + " fields", fields <= MOST_FIELDS);
        return super.visitClass(t, v);
    }

    @Override
    public Void visitMethod(MethodTree t, Void v) {
        String name = t.getName().toString();
        checks.yes(name + "'s parameters", t.getParameters().size() <= MOST_PARAMETERS);
        if (t.getBody() != null) {
            long from = trees.getSourcePositions().getStartPosition(unit, t.getBody());
            long to = trees.getSourcePositions().getEndPosition(unit, t.getBody());
            long lines = unit.getLineMap().getLineNumber(to) - unit.getLineMap().getLineNumber(from);
            checks.yes(name + " has " + lines + " lines", lines <= MOST_LINES);
        }
        if (t.getModifiers().getFlags().contains(Modifier.PUBLIC)) {
            face.add(name);
        } else if (!name.equals("<init>")) {
            hidden.add(name);
        }
        return super.visitMethod(t, v);
    }

    private ExecutableElement method(TreePath path) {
        for (TreePath p = path; p != null; p = p.getParentPath()) {
            if (p.getLeaf() instanceof MethodTree) {
                return (ExecutableElement) trees.getElement(p);
            }
        }
        return null;
    }

    private static String nameOf(Element e) {
        String text = e.getEnclosingElement() + "." + e.getSimpleName();
        return text;
    }

    private void calls(Element callee) {
        ExecutableElement caller = method(getCurrentPath());
        String from = caller == null ? "fields" : nameOf(caller);
        calls.computeIfAbsent(from, k -> new HashSet<>()).add(nameOf(callee));
    }

    @Override
    public Void visitMethodInvocation(MethodInvocationTree t, Void v) {
        Element callee = trees.getElement(getCurrentPath());
        String name = nameOf(callee);
        boolean isObject = name.equals("java.lang.Object.<init>");
        if (!isObject) {
            checks.yes("call of " + name, name.startsWith("SplitClocks") || LIBRARY.contains(name));
            calls(callee);
        }
        return super.visitMethodInvocation(t, v);
    }

    @Override
    public Void visitNewClass(NewClassTree t, Void v) {
        Element callee = trees.getElement(getCurrentPath());
        String name = nameOf(callee);
        boolean thrown = getCurrentPath().getParentPath().getLeaf() instanceof ThrowTree;
        checks.yes("new " + name, thrown || name.startsWith("SplitClocks"));
        calls(callee);
        return super.visitNewClass(t, v);
    }

    @Override
    public Void visitThrow(ThrowTree t, Void v) {
        boolean fits = t.getExpression() instanceof NewClassTree made && THROWN.contains(made.getIdentifier().toString());
        checks.yes("throw " + t.getExpression(), fits);
        checks.no("a throw in a constructor", method(getCurrentPath()).getSimpleName().contentEquals("<init>"));
        return super.visitThrow(t, v);
    }

    /** Only the rows themselves touch an array, behind a test of the index. */
    @Override
    public Void visitArrayAccess(ArrayAccessTree t, Void v) {
        checks.yes(t + " in " + nameOf(method(getCurrentPath())),
            nameOf(method(getCurrentPath())).startsWith("SplitClocks.Numbers."));
        return super.visitArrayAccess(t, v);
    }

    @Override
    public Void visitBinary(BinaryTree t, Void v) {
        checks.no("a division " + t, t.getKind() == Tree.Kind.DIVIDE || t.getKind() == Tree.Kind.REMAINDER);
        return super.visitBinary(t, v);
    }

    @Override
    public Void visitTypeCast(TypeCastTree t, Void v) {
        checks.yes("a cast " + t, t.getType().toString().equals("int"));
        return super.visitTypeCast(t, v);
    }

    @Override
    public Void visitTry(TryTree t, Void v) {
        checks.yes("no try is needed", false);
        return super.visitTry(t, v);
    }

    @Override
    public Void visitLambdaExpression(LambdaExpressionTree t, Void v) {
        checks.yes("no lambda", false);
        return super.visitLambdaExpression(t, v);
    }

    @Override
    public Void visitMemberReference(MemberReferenceTree t, Void v) {
        checks.yes("no method reference", false);
        return super.visitMemberReference(t, v);
    }

    @Override
    public Void visitAssert(AssertTree t, Void v) {
        checks.yes("no assert", false);
        return super.visitAssert(t, v);
    }

    @Override
    public Void visitSynchronized(SynchronizedTree t, Void v) {
        checks.yes("no synchronized", false);
        return super.visitSynchronized(t, v);
    }

    private void callDepth() {
        int most = 0;
        String longest = "";
        for (String name : calls.keySet()) {
            List<String> path = new ArrayList<>();
            List<String> best = new ArrayList<>();
            walk(name, path, best);
            if (best.size() > most) {
                most = best.size();
                longest = String.join(" > ", best);
            }
        }
        checks.yes("calls go " + most + " deep: " + longest, most <= MOST_CALLS_DEEP);
        System.out.println("language: the deepest calls, " + most + ": " + longest);
    }

    /** The longest chain of methods from here on, recursion counted once. */
    private void walk(String name, List<String> path, List<String> best) {
        if (path.contains(name)) {
            return;
        }
        path.add(name);
        if (path.size() > best.size()) {
            best.clear();
            best.addAll(path);
        }
        for (String next : calls.getOrDefault(name, Set.of())) {
            walk(next, path, best);
        }
        path.remove(path.size() - 1);
    }
}
