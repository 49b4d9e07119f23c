import com.sun.source.tree.BinaryTree;
import com.sun.source.tree.BlockTree;
import com.sun.source.tree.ClassTree;
import com.sun.source.tree.CompilationUnitTree;
import com.sun.source.tree.DoWhileLoopTree;
import com.sun.source.tree.ForLoopTree;
import com.sun.source.tree.MethodInvocationTree;
import com.sun.source.tree.MethodTree;
import com.sun.source.tree.NewClassTree;
import com.sun.source.tree.Tree;
import com.sun.source.tree.VariableTree;
import com.sun.source.tree.WhileLoopTree;
import com.sun.source.util.JavacTask;
import com.sun.source.util.SourcePositions;
import com.sun.source.util.TreePath;
import com.sun.source.util.TreePathScanner;
import com.sun.source.util.TreeScanner;
import com.sun.source.util.Trees;
import java.io.IOException;
import java.nio.file.Path;
import java.util.EnumSet;
import java.util.HashMap;
import java.util.HashSet;
import java.util.LinkedHashMap;
import java.util.List;
import java.util.Map;
import java.util.Set;
import java.util.TreeSet;
import javax.lang.model.element.Element;
import javax.lang.model.element.ExecutableElement;
import javax.lang.model.element.Modifier;
import javax.lang.model.element.TypeElement;
import javax.tools.JavaCompiler;
import javax.tools.StandardJavaFileManager;
import javax.tools.ToolProvider;

/** The rules of LANGUAGE.md that the compiler's own tree of the class shows: what is called, how deep, how long, how loops end. */
public final class ShapeTest {
    private static final int MOST_LINES = 60, MOST_DEEP = 8, MOST_PARAMETERS = 7, MOST_CLASSES = 12, MOST_FIELDS = 20;

    /** Of what rule 4 allows, what the class uses. */
    private static final Set<String> LIBRARY = Set.of("java.lang.Math.min", "java.lang.Math.max",
        "java.lang.Integer.bitCount", "java.lang.System.arraycopy", "java.util.Arrays.fill", "java.lang.Object.<init>");

    /** Rule 8: these call themselves, with a depth that is carried; nothing else does. */
    private static final Set<String> RECURSIVE = Set.of("WellKnots.chancesAlive", "WellKnots.Ring.walk");

    private static final Set<Tree.Kind> RULED_OUT = EnumSet.of(Tree.Kind.THROW, Tree.Kind.TRY, Tree.Kind.CATCH,
        Tree.Kind.SYNCHRONIZED, Tree.Kind.ASSERT, Tree.Kind.LAMBDA_EXPRESSION, Tree.Kind.MEMBER_REFERENCE,
        Tree.Kind.SWITCH_EXPRESSION, Tree.Kind.YIELD, Tree.Kind.TYPE_CAST, Tree.Kind.FLOAT_LITERAL,
        Tree.Kind.DOUBLE_LITERAL);

    private static final Set<Tree.Kind> COMPARISONS = EnumSet.of(Tree.Kind.LESS_THAN, Tree.Kind.LESS_THAN_EQUAL,
        Tree.Kind.GREATER_THAN, Tree.Kind.GREATER_THAN_EQUAL);

    private final Map<String, Set<String>> calls = new LinkedHashMap<>();
    private final Trees trees;
    private final CompilationUnitTree unit;
    private int classes;
    private int methods;
    private int loops;

    private ShapeTest(Trees trees, CompilationUnitTree unit) {
        this.trees = trees;
        this.unit = unit;
    }

    public static void main(String[] args) throws IOException {
        Path source = Path.of(System.getProperty("wellknots.source", "src/main/java/WellKnots.java"));
        JavaCompiler compiler = ToolProvider.getSystemJavaCompiler();
        try (StandardJavaFileManager files = compiler.getStandardFileManager(null, null, null)) {
            JavacTask task = (JavacTask) compiler.getTask(null, files, null, List.of("--release", "17"), null,
                files.getJavaFileObjects(source));
            CompilationUnitTree unit = task.parse().iterator().next();
            task.analyze();
            new ShapeTest(Trees.instance(task), unit).look();
        }
        Checks.end("ShapeTest");
    }

    private void look() {
        ok("no package line", unit.getPackage() == null);
        ok("one class in the file", unit.getTypeDecls().size() == 1);
        new Walk().scan(unit, null);
        ok("some twelve classes: " + classes, classes > 1 && classes <= MOST_CLASSES);
        ok("methods were seen", methods > 100);
        ok("loops were seen", loops > 20);
        lookAtDepth();
    }

    private static void ok(String rule, boolean holds) {
        Checks.due(rule, holds ? 1 : 0, 1);
    }

    private static String nameOf(Element element) {
        return ((TypeElement) element.getEnclosingElement()).getQualifiedName() + "." + element.getSimpleName();
    }

    private long lineOf(long at) {
        return unit.getLineMap().getLineNumber(at);
    }

    /** Rules 8 and 11: what calls itself is known, and no row of calls, each method once, is deeper than eight. */
    private void lookAtDepth() {
        Set<String> inRounds = new TreeSet<>();
        Map<String, Integer> known = new HashMap<>();
        int deepest = 0;
        for (String method : calls.keySet()) {
            deepest = Math.max(deepest, depthOf(method, new HashSet<>(), inRounds, known));
        }
        ok("what calls itself: " + inRounds, inRounds.equals(RECURSIVE));
        ok("calls are " + deepest + " deep", deepest > 1 && deepest <= MOST_DEEP);
    }

    private int depthOf(String method, Set<String> open, Set<String> inRounds, Map<String, Integer> known) {
        if (known.containsKey(method)) {
            return known.get(method);
        }
        if (!open.add(method)) {
            inRounds.add(method);
            return 0;
        }
        int deepest = 0;
        for (String called : calls.getOrDefault(method, Set.of())) {
            deepest = Math.max(deepest, depthOf(called, open, inRounds, known));
        }
        open.remove(method);
        known.put(method, deepest + 1);
        return deepest + 1;
    }

    private final class Walk extends TreePathScanner<Void, Void> {
        private String inside = "";

        @Override
        public Void scan(Tree tree, Void none) {
            if (tree != null && RULED_OUT.contains(tree.getKind())) {
                ok("line " + lineOf(start(tree)) + " has a " + tree.getKind(), false);
            }
            return super.scan(tree, none);
        }

        private long start(Tree tree) {
            return trees.getSourcePositions().getStartPosition(unit, tree);
        }

        @Override
        public Void visitClass(ClassTree tree, Void none) {
            classes++;
            boolean nested = getCurrentPath().getParentPath().getLeaf() instanceof ClassTree;
            ok(tree.getSimpleName() + " is static inside the class, not local",
                !nested ? getCurrentPath().getParentPath().getLeaf() == unit
                    : tree.getModifiers().getFlags().contains(Modifier.STATIC));
            int fields = 0;
            for (Tree member : tree.getMembers()) {
                boolean isField = member instanceof VariableTree field
                    && !field.getModifiers().getFlags().contains(Modifier.STATIC);
                fields += isField ? 1 : 0;
                ok(tree.getSimpleName() + " has no initialiser block", !(member instanceof BlockTree));
            }
            ok(tree.getSimpleName() + " has some twenty fields: " + fields, fields <= MOST_FIELDS);
            return super.visitClass(tree, none);
        }

        @Override
        public Void visitMethod(MethodTree tree, Void none) {
            methods++;
            String outer = inside;
            inside = nameOf(trees.getElement(getCurrentPath()));
            calls.putIfAbsent(inside, new TreeSet<>());
            SourcePositions places = trees.getSourcePositions();
            // a constructor that the compiler made has no end of its own
            long end = Math.max(places.getStartPosition(unit, tree), places.getEndPosition(unit, tree));
            long lines = lineOf(end) - lineOf(start(tree)) + 1;
            ok(inside + " has " + lines + " lines", lines <= MOST_LINES);
            ok(inside + " takes at most seven", tree.getParameters().size() <= MOST_PARAMETERS);
            super.visitMethod(tree, none);
            inside = outer;
            return null;
        }

        @Override
        public Void visitMethodInvocation(MethodInvocationTree tree, Void none) {
            called(new TreePath(getCurrentPath(), tree.getMethodSelect()));
            return super.visitMethodInvocation(tree, none);
        }

        @Override
        public Void visitNewClass(NewClassTree tree, Void none) {
            ok("no class without a name", tree.getClassBody() == null);
            called(getCurrentPath());
            return super.visitNewClass(tree, none);
        }

        private void called(TreePath path) {
            ExecutableElement method = (ExecutableElement) trees.getElement(path);
            String name = nameOf(method);
            ok(inside + " calls " + name, name.startsWith("WellKnots.") || LIBRARY.contains(name));
            if (!inside.isEmpty() && !name.equals("java.lang.Object.<init>")) {
                calls.get(inside).add(name);
            }
        }

        @Override
        public Void visitForLoop(ForLoopTree tree, Void none) {
            loop(tree, tree.getCondition());
            return super.visitForLoop(tree, none);
        }

        @Override
        public Void visitWhileLoop(WhileLoopTree tree, Void none) {
            loop(tree, tree.getCondition());
            return super.visitWhileLoop(tree, none);
        }

        @Override
        public Void visitDoWhileLoop(DoWhileLoopTree tree, Void none) {
            loop(tree, tree.getCondition());
            return super.visitDoWhileLoop(tree, none);
        }

        /** Rule 9: a counter against a bound stands in the loop's own line. */
        private void loop(Tree tree, Tree condition) {
            loops++;
            ok("the loop in line " + lineOf(start(tree)) + " has a bound", condition != null && compares(condition));
        }

        private boolean compares(Tree condition) {
            boolean[] found = {false};
            new TreeScanner<Void, Void>() {
                @Override
                public Void visitBinary(BinaryTree tree, Void none) {
                    found[0] |= COMPARISONS.contains(tree.getKind());
                    return super.visitBinary(tree, none);
                }
            }.scan(condition, null);
            return found[0];
        }
    }
}
