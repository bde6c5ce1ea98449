import com.sun.source.tree.ClassTree;
import com.sun.source.tree.CompilationUnitTree;
import com.sun.source.tree.MethodInvocationTree;
import com.sun.source.tree.MethodTree;
import com.sun.source.tree.NewArrayTree;
import com.sun.source.tree.NewClassTree;
import com.sun.source.tree.Tree;
import com.sun.source.tree.VariableTree;
import com.sun.source.util.JavacTask;
import com.sun.source.util.TreePath;
import com.sun.source.util.TreePathScanner;
import com.sun.source.util.Trees;
import java.nio.file.Path;
import java.util.EnumSet;
import java.util.HashMap;
import java.util.HashSet;
import java.util.List;
import java.util.Map;
import java.util.Set;
import javax.lang.model.element.Element;
import javax.lang.model.element.Modifier;
import javax.tools.JavaCompiler;
import javax.tools.StandardJavaFileManager;
import javax.tools.ToolProvider;

/** The rules of LANGUAGE.md that are told by the source's parts, as the compiler sees them: what it calls, and how deep. */
public final class RulesTest extends TreePathScanner<Void, Void> {
    private static final int MOST_DEEP = 8;
    private static final int MOST_LINES = 60;
    private static final int MOST_PARAMETERS = 7;
    private static final int MOST_CLASSES = 12;
    private static final int MOST_FIELDS = 20;
    /** So much of the library is used; LANGUAGE.md has more, but what is new here is looked at by somebody first. */
    private static final Set<String> LIBRARY = Set.of("java.lang.System.arraycopy", "java.lang.Math.min", "java.lang.Object.<init>");
    private static final Set<Tree.Kind> RULED_OUT = EnumSet.of(Tree.Kind.LAMBDA_EXPRESSION, Tree.Kind.MEMBER_REFERENCE,
            Tree.Kind.TRY, Tree.Kind.CATCH, Tree.Kind.THROW, Tree.Kind.SYNCHRONIZED, Tree.Kind.ASSERT, Tree.Kind.IMPORT,
            Tree.Kind.PACKAGE, Tree.Kind.ANNOTATION, Tree.Kind.STRING_LITERAL, Tree.Kind.TYPE_CAST, Tree.Kind.DIVIDE,
            Tree.Kind.DIVIDE_ASSIGNMENT);

    private final Trees trees;
    private final CompilationUnitTree unit;
    private final Map<Element, Set<Element>> calls = new HashMap<>();
    private final Set<Element> faces = new HashSet<>();
    private int classes = 0;

    private RulesTest(Trees trees, CompilationUnitTree unit) {
        this.trees = trees;
        this.unit = unit;
    }

    public static void main(String[] args) throws Exception {
        Path source = Path.of(System.getProperty("flaghoists.source", "src/main/java/FlagHoists.java"));
        JavaCompiler compiler = ToolProvider.getSystemJavaCompiler();
        try (StandardJavaFileManager files = compiler.getStandardFileManager(null, null, null)) {
            JavacTask task = (JavacTask) compiler.getTask(null, files, null, List.of("--release", "17"), null,
                    files.getJavaFileObjects(source));
            CompilationUnitTree unit = task.parse().iterator().next();
            task.analyze();
            RulesTest test = new RulesTest(Trees.instance(task), unit);
            test.scan(unit, null);
            test.depths();
        }
        Check.end();
    }

    private String at(Tree tree) {
        long line = unit.getLineMap().getLineNumber(trees.getSourcePositions().getStartPosition(unit, tree));
        return "line " + line + ": ";
    }

    @Override
    public Void scan(Tree tree, Void none) {
        if (tree != null) {
            Check.isTrue("a " + tree.getKind() + " is ruled out", !RULED_OUT.contains(tree.getKind()));
        }
        return super.scan(tree, none);
    }

    @Override
    public Void visitClass(ClassTree tree, Void none) {
        classes++;
        Check.isTrue(at(tree) + "more than some twelve classes", classes <= MOST_CLASSES);
        Tree around = getCurrentPath().getParentPath().getLeaf();
        boolean outer = around instanceof CompilationUnitTree;
        Check.isTrue(at(tree) + "a class that is no static one of the class", outer || around instanceof ClassTree
                && tree.getModifiers().getFlags().contains(Modifier.STATIC));
        long fields = tree.getMembers().stream().filter(part -> part instanceof VariableTree field
                && !field.getModifiers().getFlags().contains(Modifier.STATIC)).count();
        Check.isTrue(at(tree) + fields + " fields", fields <= MOST_FIELDS);
        for (Tree part : tree.getMembers()) {
            Check.isTrue(at(part) + "a block that is no method's", part.getKind() != Tree.Kind.BLOCK);
        }
        return super.visitClass(tree, none);
    }

    @Override
    public Void visitMethod(MethodTree tree, Void none) {
        long first = trees.getSourcePositions().getStartPosition(unit, tree);
        long last = trees.getSourcePositions().getEndPosition(unit, tree);
        long lines = unit.getLineMap().getLineNumber(Math.max(first, last)) - unit.getLineMap().getLineNumber(first) + 1;
        Check.isTrue(at(tree) + lines + " lines of " + tree.getName(), lines <= MOST_LINES);
        Check.isTrue(at(tree) + "parameters of " + tree.getName(), tree.getParameters().size() <= MOST_PARAMETERS);
        Element method = trees.getElement(getCurrentPath());
        calls.computeIfAbsent(method, any -> new HashSet<>());
        if (tree.getModifiers().getFlags().contains(Modifier.PUBLIC)) {
            faces.add(method);
        }
        return super.visitMethod(tree, none);
    }

    @Override
    public Void visitMethodInvocation(MethodInvocationTree tree, Void none) {
        note(trees.getElement(new TreePath(getCurrentPath(), tree.getMethodSelect())), tree);
        return super.visitMethodInvocation(tree, none);
    }

    /** All rows come from constructors: one room holds what every call of a run makes. */
    @Override
    public Void visitNewClass(NewClassTree tree, Void none) {
        Check.isTrue(at(tree) + "a class without a name", tree.getClassBody() == null);
        isMadeAtFirst(tree);
        note(trees.getElement(getCurrentPath()), tree);
        return super.visitNewClass(tree, none);
    }

    @Override
    public Void visitNewArray(NewArrayTree tree, Void none) {
        isMadeAtFirst(tree);
        return super.visitNewArray(tree, none);
    }

    private void isMadeAtFirst(Tree tree) {
        MethodTree method = methodAround();
        Check.isTrue(at(tree) + "made in a method that is no constructor", method == null || method.getReturnType() == null);
    }

    private MethodTree methodAround() {
        for (TreePath path = getCurrentPath(); path != null; path = path.getParentPath()) {
            if (path.getLeaf() instanceof MethodTree method) {
                return method;
            }
        }
        return null;
    }

    private void note(Element called, Tree tree) {
        String name = called.getEnclosingElement() + "." + called.getSimpleName();
        boolean own = name.startsWith("FlagHoists");
        Check.isTrue(at(tree) + name + " is of the library", own || LIBRARY.contains(name));
        MethodTree method = methodAround();
        if (own && method != null) {
            Element caller = trees.getElement(trees.getPath(unit, method));
            calls.computeIfAbsent(caller, any -> new HashSet<>()).add(called);
        }
    }

    private void depths() {
        Check.due("the face has", 25, faces.size());
        for (Element face : faces) {
            int deep = depth(face, MOST_DEEP + 1);
            Check.isTrue(face + " goes " + deep + " deep or more, or calls itself", deep <= MOST_DEEP);
        }
    }

    /** How many calls stand open at once, its own too; no more than so many are looked at, so that a circle ends. */
    private int depth(Element method, int most) {
        int deepest = 0;
        if (most > 1) {
            for (Element called : calls.getOrDefault(method, Set.of())) {
                deepest = Math.max(deepest, depth(called, most - 1));
            }
        }
        return deepest + 1;
    }
}
