import com.sun.source.tree.AssertTree;
import com.sun.source.tree.BinaryTree;
import com.sun.source.tree.BlockTree;
import com.sun.source.tree.CatchTree;
import com.sun.source.tree.ClassTree;
import com.sun.source.tree.CompilationUnitTree;
import com.sun.source.tree.DoWhileLoopTree;
import com.sun.source.tree.EnhancedForLoopTree;
import com.sun.source.tree.ExpressionTree;
import com.sun.source.tree.ForLoopTree;
import com.sun.source.tree.ImportTree;
import com.sun.source.tree.LambdaExpressionTree;
import com.sun.source.tree.MemberReferenceTree;
import com.sun.source.tree.MethodInvocationTree;
import com.sun.source.tree.MethodTree;
import com.sun.source.tree.NewArrayTree;
import com.sun.source.tree.NewClassTree;
import com.sun.source.tree.SynchronizedTree;
import com.sun.source.tree.ThrowTree;
import com.sun.source.tree.Tree;
import com.sun.source.tree.TryTree;
import com.sun.source.tree.TypeCastTree;
import com.sun.source.tree.VariableTree;
import com.sun.source.tree.WhileLoopTree;
import com.sun.source.util.JavacTask;
import com.sun.source.util.TreePath;
import com.sun.source.util.TreePathScanner;
import com.sun.source.util.Trees;
import java.io.IOException;
import java.nio.file.Files;
import java.nio.file.Path;
import java.util.HashMap;
import java.util.List;
import java.util.Map;
import java.util.Set;
import java.util.TreeSet;
import javax.lang.model.element.Element;
import javax.lang.model.element.ElementKind;
import javax.lang.model.element.Modifier;
import javax.lang.model.element.VariableElement;
import javax.lang.model.type.ArrayType;
import javax.lang.model.type.TypeKind;
import javax.lang.model.type.TypeMirror;
import javax.tools.JavaCompiler;
import javax.tools.StandardJavaFileManager;
import javax.tools.ToolProvider;

/**
 * The rules of LANGUAGE.md that can be read off the source, as the compiler reads it. It is stricter than the rules in
 * two things that the class can do without: no recursion at all, and nothing made but in constructors.
 */
public final class RulesTest extends TreePathScanner<Void, Void> {
    private static final Check check = new Check("RulesTest");
    private static final int MOST_LINES = 60, MOST_PARAMETERS = 7, MOST_DEEP = 8, MOST_CLASSES = 12, MOST_FIELDS = 20;
    private static final int ENDLESS = 1000;
    private static final Set<String> LIBRARY = Set.of(
        "java.lang.Object.<init>", "java.lang.System.arraycopy", "java.lang.Integer.bitCount",
        "java.lang.Math.max", "java.lang.Math.min");

    private final Trees trees;
    private final CompilationUnitTree unit;
    private final Map<String, Set<String>> callsOf = new HashMap<>();
    private int classes = 0;
    private String within = "";

    private RulesTest(Trees trees, CompilationUnitTree unit) {
        this.trees = trees;
        this.unit = unit;
    }

    public static void main(String[] args) throws IOException {
        Path source = Path.of(args.length > 0 ? args[0] : "src/main/java/LeftCoaches.java");
        JavaCompiler compiler = ToolProvider.getSystemJavaCompiler();
        try (StandardJavaFileManager files = compiler.getStandardFileManager(null, null, null)) {
            JavacTask task = (JavacTask) compiler.getTask(null, files, null, List.of("-proc:none"), null, files.getJavaFileObjects(source));
            CompilationUnitTree unit = task.parse().iterator().next();
            task.analyze();
            RulesTest rules = new RulesTest(Trees.instance(task), unit);
            rules.rule(4, "signs are 1 to 127", Files.readString(source).chars().allMatch(sign -> sign > 0 && sign < 128));
            rules.scan(unit, null);
            rules.end();
        }
        check.end();
    }

    private void end() {
        rule(1, "one class stands by itself", unit.getTypeDecls().size() == 1);
        rule(1, "no package", unit.getPackageName() == null);
        rule(11, "classes: " + classes, classes <= MOST_CLASSES);
        rule(11, "methods are found: " + callsOf.size(), callsOf.size() > 80);
        for (String method : callsOf.keySet()) {
            int deep = deep(method, new TreeSet<>());
            rule(8, method + " does not call itself", deep < ENDLESS);
            rule(11, method + " goes " + deep + " deep", deep <= MOST_DEEP);
        }
    }

    private int deep(String method, Set<String> open) {
        if (!open.add(method)) {
            return ENDLESS;
        }
        int deepest = 0;
        for (String called : callsOf.getOrDefault(method, Set.of())) {
            deepest = Math.max(deepest, deep(called, open));
        }
        open.remove(method);
        return Math.min(deepest + 1, ENDLESS);
    }

    private void rule(int number, String what, boolean holds) {
        check.due("rule " + number + ", " + what, holds ? 1 : 0, 1);
    }

    private void never(int number, Tree tree) {
        rule(number, "line " + line(tree) + ": " + tree.toString().split("\n")[0], false);
    }

    private long line(Tree tree) {
        return unit.getLineMap().getLineNumber(trees.getSourcePositions().getStartPosition(unit, tree));
    }

    private long lastLine(Tree tree) {
        return unit.getLineMap().getLineNumber(trees.getSourcePositions().getEndPosition(unit, tree));
    }

    private Element element() {
        return trees.getElement(getCurrentPath());
    }

    // ---- classes and their members

    @Override
    public Void visitClass(ClassTree tree, Void none) {
        classes++;
        Tree parent = getCurrentPath().getParentPath().getLeaf();
        boolean outer = parent instanceof CompilationUnitTree;
        rule(2, tree.getSimpleName() + " is a class of its own or static in one", outer
            || parent instanceof ClassTree && tree.getModifiers().getFlags().contains(Modifier.STATIC));
        int fields = 0;
        for (Tree member : tree.getMembers()) {
            boolean own = member instanceof VariableTree field && !field.getModifiers().getFlags().contains(Modifier.STATIC);
            fields += own ? 1 : 0;
            rule(5, tree.getSimpleName() + " has no block", !(member instanceof BlockTree));
        }
        rule(11, tree.getSimpleName() + " has " + fields + " fields", fields <= MOST_FIELDS);
        return super.visitClass(tree, none);
    }

    @Override
    public Void visitMethod(MethodTree tree, Void none) {
        within = key(element());
        callsOf.computeIfAbsent(within, k -> new TreeSet<>());
        rule(11, within + " is short", lastLine(tree) - line(tree) < MOST_LINES);
        rule(11, within + " has few parameters", tree.getParameters().size() <= MOST_PARAMETERS);
        super.visitMethod(tree, none);
        within = "";
        return null;
    }

    @Override
    public Void visitVariable(VariableTree tree, Void none) {
        Element variable = element();
        rule(3, "line " + line(tree) + ": type of " + tree.getName(), isPlain(variable.asType()));
        if (variable.getKind() == ElementKind.FIELD && variable.getModifiers().contains(Modifier.STATIC)) {
            boolean constant = variable.getModifiers().contains(Modifier.FINAL) && variable.asType().getKind().isPrimitive();
            rule(5, "line " + line(tree) + ": " + tree.getName() + " is a constant", constant);
        }
        return super.visitVariable(tree, none);
    }

    /** Whole numbers and truths, rows of them, own classes, rows of those. */
    private static boolean isPlain(TypeMirror type) {
        TypeMirror bare = type instanceof ArrayType row ? row.getComponentType() : type;
        if (bare.getKind() == TypeKind.INT || bare.getKind() == TypeKind.LONG || bare.getKind() == TypeKind.BOOLEAN) {
            return true;
        }
        return bare.toString().startsWith("LeftCoaches");
    }

    // ---- calls, and what is made

    private static String key(Element method) {
        return method.getEnclosingElement() + "." + method;
    }

    private void called(Element method) {
        String owner = method.getEnclosingElement().toString();
        if (owner.startsWith("LeftCoaches")) {
            if (!within.isEmpty()) {
                callsOf.get(within).add(key(method));
            }
        } else {
            String name = owner + "." + method.getSimpleName();
            rule(4, name + " is in the library", LIBRARY.contains(name));
        }
    }

    @Override
    public Void visitMethodInvocation(MethodInvocationTree tree, Void none) {
        called(element());
        return super.visitMethodInvocation(tree, none);
    }

    @Override
    public Void visitNewClass(NewClassTree tree, Void none) {
        called(element());
        rule(2, "line " + line(tree) + ": no class without a name", tree.getClassBody() == null);
        rule(12, "line " + line(tree) + ": made in a constructor", within.isEmpty() || isConstructor());
        return super.visitNewClass(tree, none);
    }

    @Override
    public Void visitNewArray(NewArrayTree tree, Void none) {
        rule(12, "line " + line(tree) + ": made in a constructor", within.isEmpty() || isConstructor());
        return super.visitNewArray(tree, none);
    }

    private boolean isConstructor() {
        TreePath path = getCurrentPath();
        while (path != null && !(path.getLeaf() instanceof MethodTree)) {
            path = path.getParentPath();
        }
        return path != null && ((MethodTree) path.getLeaf()).getReturnType() == null;
    }

    // ---- divisors and loops

    /** What divides is a constant other than 0, or is tested against 0 in the same statement. */
    @Override
    public Void visitBinary(BinaryTree tree, Void none) {
        if (tree.getKind() == Tree.Kind.DIVIDE || tree.getKind() == Tree.Kind.REMAINDER) {
            ExpressionTree divisor = tree.getRightOperand();
            Element named = trees.getElement(new TreePath(getCurrentPath(), divisor));
            boolean literal = divisor.getKind() == Tree.Kind.INT_LITERAL && !divisor.toString().equals("0");
            boolean constant = named instanceof VariableElement value
                && value.getConstantValue() instanceof Number number && number.longValue() != 0;
            rule(7, "line " + line(tree) + ": what divides is not 0", literal || constant || isTested(divisor.toString()));
        }
        if (tree.getKind() == Tree.Kind.PLUS) {
            TypeMirror type = trees.getTypeMirror(getCurrentPath());
            rule(10, "line " + line(tree) + ": numbers are added", type.getKind().isPrimitive());
        }
        return super.visitBinary(tree, none);
    }

    private boolean isTested(String divisor) {
        TreePath path = getCurrentPath();
        while (path.getParentPath() != null && path.getLeaf() instanceof ExpressionTree) {
            path = path.getParentPath();
        }
        return path.getLeaf().toString().contains(divisor + " > 0 ?");
    }

    @Override
    public Void visitForLoop(ForLoopTree tree, Void none) {
        boolean counts = tree.getCondition() != null && tree.getCondition().toString().matches("\\w+ <=? [\\w.]+")
            && tree.getUpdate().size() == 1 && tree.getUpdate().get(0).toString().matches("\\w+\\+\\+;?");
        rule(9, "line " + line(tree) + ": a counter against a bound", counts);
        return super.visitForLoop(tree, none);
    }

    @Override
    public Void visitWhileLoop(WhileLoopTree tree, Void none) {
        boolean counts = tree.getCondition().toString().matches("\\((\\w+) < \\w+ && .*\\)");
        String counter = tree.getCondition().toString().replaceAll("\\((\\w+) .*", "$1");
        rule(9, "line " + line(tree) + ": a counter against a bound", counts && tree.getStatement().toString().contains(counter + "++;"));
        return super.visitWhileLoop(tree, none);
    }

    // ---- what never stands there

    @Override
    public Void visitDoWhileLoop(DoWhileLoopTree tree, Void none) {
        never(9, tree);
        return null;
    }

    @Override
    public Void visitEnhancedForLoop(EnhancedForLoopTree tree, Void none) {
        never(12, tree);
        return null;
    }

    @Override
    public Void visitImport(ImportTree tree, Void none) {
        never(4, tree);
        return null;
    }

    @Override
    public Void visitLambdaExpression(LambdaExpressionTree tree, Void none) {
        never(2, tree);
        return null;
    }

    @Override
    public Void visitMemberReference(MemberReferenceTree tree, Void none) {
        never(2, tree);
        return null;
    }

    @Override
    public Void visitThrow(ThrowTree tree, Void none) {
        never(6, tree);
        return null;
    }

    @Override
    public Void visitTry(TryTree tree, Void none) {
        never(6, tree);
        return null;
    }

    @Override
    public Void visitCatch(CatchTree tree, Void none) {
        never(6, tree);
        return null;
    }

    @Override
    public Void visitSynchronized(SynchronizedTree tree, Void none) {
        never(6, tree);
        return null;
    }

    @Override
    public Void visitAssert(AssertTree tree, Void none) {
        never(6, tree);
        return null;
    }

    /** Between numbers alone. */
    @Override
    public Void visitTypeCast(TypeCastTree tree, Void none) {
        rule(6, "line " + line(tree) + ": a cast of numbers", trees.getTypeMirror(getCurrentPath()).getKind().isPrimitive());
        return super.visitTypeCast(tree, none);
    }
}
