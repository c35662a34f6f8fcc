import com.sun.source.tree.AssertTree;
import com.sun.source.tree.BinaryTree;
import com.sun.source.tree.BlockTree;
import com.sun.source.tree.CatchTree;
import com.sun.source.tree.ClassTree;
import com.sun.source.tree.CompilationUnitTree;
import com.sun.source.tree.CompoundAssignmentTree;
import com.sun.source.tree.DoWhileLoopTree;
import com.sun.source.tree.ExpressionTree;
import com.sun.source.tree.ForLoopTree;
import com.sun.source.tree.InstanceOfTree;
import com.sun.source.tree.LambdaExpressionTree;
import com.sun.source.tree.LiteralTree;
import com.sun.source.tree.MemberReferenceTree;
import com.sun.source.tree.MethodInvocationTree;
import com.sun.source.tree.MethodTree;
import com.sun.source.tree.NewArrayTree;
import com.sun.source.tree.NewClassTree;
import com.sun.source.tree.ParenthesizedTree;
import com.sun.source.tree.SynchronizedTree;
import com.sun.source.tree.ThrowTree;
import com.sun.source.tree.Tree;
import com.sun.source.tree.TryTree;
import com.sun.source.tree.TypeCastTree;
import com.sun.source.tree.VariableTree;
import com.sun.source.tree.WhileLoopTree;
import com.sun.source.util.JavacTask;
import com.sun.source.util.TreePath;
import com.sun.source.util.TreePathScanner;
import com.sun.source.util.Trees;
import java.io.IOException;
import java.nio.charset.StandardCharsets;
import java.nio.file.Files;
import java.nio.file.Path;
import java.util.HashMap;
import java.util.HashSet;
import java.util.List;
import java.util.Map;
import java.util.Set;
import java.util.TreeMap;
import java.util.TreeSet;
import javax.lang.model.element.Element;
import javax.lang.model.element.Modifier;
import javax.lang.model.type.TypeMirror;
import javax.tools.JavaCompiler;
import javax.tools.StandardJavaFileManager;
import javax.tools.ToolProvider;

/**
 * What of ../shared/LANGUAGE.md can be read off the source. It allows less than the rules do: the
 * program needs no library, no class inside it, no recursion and no object made by a call.
 */
public final class LanguageTest extends TreePathScanner<Void, Void> {
    private static final Path SOURCE = Path.of("src/main/java/CellTrays.java");
    private static final Set<String> TYPES = Set.of(
        "int", "long", "boolean", "double", "void", "int[]", "long[]", "boolean[]");
    private static final Set<String> STATIC_TYPES = Set.of("int", "long", "boolean", "char", "java.lang.String");
    private static final Set<String> EXCEPTIONS = Set.of(
        "java.lang.IllegalStateException", "java.lang.IllegalArgumentException",
        "java.lang.IndexOutOfBoundsException");
    private static final int MOST_LINES = 60;
    private static final int MOST_PARAMETERS = 7;
    private static final int MOST_FIELDS = 20;
    private static final int MOST_DEPTH = 8;

    private final Trees trees;
    private final CompilationUnitTree unit;
    private final Map<Integer, TreeSet<String>> broken = new TreeMap<>();
    private final Map<Element, Set<Element>> calls = new HashMap<>();

    private LanguageTest(Trees trees, CompilationUnitTree unit) {
        this.trees = trees;
        this.unit = unit;
        for (int rule : new int[] {1, 2, 3, 4, 5, 6, 8, 9, 10, 11, 12}) {
            broken.put(rule, new TreeSet<>());
        }
    }

    public static void main(String[] args) throws IOException {
        JavaCompiler javac = ToolProvider.getSystemJavaCompiler();
        StandardJavaFileManager files = javac.getStandardFileManager(null, null, StandardCharsets.UTF_8);
        JavacTask task = (JavacTask) javac.getTask(
            null, files, null, List.of("-proc:none"), null, files.getJavaFileObjects(SOURCE));
        CompilationUnitTree unit = task.parse().iterator().next();
        task.analyze();
        LanguageTest test = new LanguageTest(Trees.instance(task), unit);
        test.scan(unit, null);
        test.texts();
        test.depths();
        test.broken.forEach((rule, lines) -> Check.due("rule " + rule + " is broken", "[]", () -> lines));
        Check.end();
    }

    private void rule(int number, boolean kept, Tree at, String what) {
        if (!kept) {
            long start = trees.getSourcePositions().getStartPosition(unit, at);
            broken.get(number).add("line " + unit.getLineMap().getLineNumber(start) + ": " + what);
        }
    }

    // ---- the file and its classes

    @Override
    public Void visitCompilationUnit(CompilationUnitTree file, Void none) {
        rule(1, file.getPackageName() == null, file, "a package");
        rule(4, file.getImports().isEmpty(), file, "an import");
        return super.visitCompilationUnit(file, none);
    }

    @Override
    public Void visitClass(ClassTree type, Void none) {
        rule(2, getCurrentPath().getParentPath().getLeaf() == unit, type, "a class inside");
        int fields = 0;
        for (Tree member : type.getMembers()) {
            boolean isField = member instanceof VariableTree;
            boolean isBlock = member instanceof BlockTree;
            fields += isField && !has((VariableTree) member, Modifier.STATIC) ? 1 : 0;
            rule(5, !isBlock, member, "an initialiser block");
        }
        rule(11, fields <= MOST_FIELDS, type, fields + " fields");
        return super.visitClass(type, none);
    }

    @Override
    public Void visitVariable(VariableTree variable, Void none) {
        String type = typeOf(variable);
        if (has(variable, Modifier.STATIC)) {
            rule(5, has(variable, Modifier.FINAL), variable, "static, not final");
            rule(5, STATIC_TYPES.contains(type), variable, "static " + type);
        } else if (!(getCurrentPath().getParentPath().getLeaf() instanceof CatchTree)) {
            rule(3, TYPES.contains(type), variable, type);
        }
        return super.visitVariable(variable, none);
    }

    private static boolean has(VariableTree variable, Modifier modifier) {
        return variable.getModifiers().getFlags().contains(modifier);
    }

    // ---- methods

    @Override
    public Void visitMethod(MethodTree method, Void none) {
        Element self = trees.getElement(getCurrentPath());
        calls.computeIfAbsent(self, made -> new HashSet<>());
        if (method.getReturnType() != null) {
            rule(3, TYPES.contains(typeOf(method.getReturnType())), method, method.getReturnType().toString());
        }
        rule(11, method.getParameters().size() <= MOST_PARAMETERS, method, "too many parameters");
        rule(11, lines(method) <= MOST_LINES, method, "too long");
        return super.visitMethod(method, none);
    }

    private long lines(MethodTree method) {
        long start = trees.getSourcePositions().getStartPosition(unit, method);
        long end = trees.getSourcePositions().getEndPosition(unit, method);
        return unit.getLineMap().getLineNumber(end) - unit.getLineMap().getLineNumber(start) + 1;
    }

    @Override
    public Void visitMethodInvocation(MethodInvocationTree call, Void none) {
        Element called = trees.getElement(getCurrentPath());
        Element caller = enclosingMethod();
        String owner = called.getEnclosingElement().toString();
        boolean isSuper = call.getMethodSelect().toString().equals("super");
        rule(4, owner.equals("CellTrays") || isSuper, call, owner + "." + called);
        if (caller != null && !isSuper) {
            calls.computeIfAbsent(caller, made -> new HashSet<>()).add(called);
        }
        return super.visitMethodInvocation(call, none);
    }

    private Element enclosingMethod() {
        for (TreePath path = getCurrentPath(); path != null; path = path.getParentPath()) {
            if (path.getLeaf() instanceof MethodTree) {
                return trees.getElement(path);
            }
        }
        return null;
    }

    private void depths() {
        for (Element method : calls.keySet()) {
            int depth = depthOf(method, 1);
            boolean isKept = depth <= MOST_DEPTH;
            rule(8, isKept, unit, method + " calls itself, or goes more than " + MOST_DEPTH + " deep");
        }
    }

    /** A method that calls itself, through others too, comes out deeper than any that may be. */
    private int depthOf(Element method, int depth) {
        int deepest = depth;
        for (Element called : calls.getOrDefault(method, Set.of())) {
            if (depth <= MOST_DEPTH) {
                deepest = Math.max(deepest, depthOf(called, depth + 1));
            }
        }
        return deepest;
    }

    // ---- statements

    @Override
    public Void visitThrow(ThrowTree thrown, Void none) {
        boolean isNew = thrown.getExpression() instanceof NewClassTree;
        rule(6, isNew, thrown, "not a new exception");
        rule(6, isNew && EXCEPTIONS.contains(typeOf(thrown.getExpression())), thrown, thrown.toString());
        if (isNew) {
            for (ExpressionTree text : ((NewClassTree) thrown.getExpression()).getArguments()) {
                rule(6, text instanceof LiteralTree, thrown, "its text is not written out");
            }
        }
        Element method = enclosingMethod();
        rule(6, method != null && !method.getSimpleName().contentEquals("<init>"), thrown, "in a constructor");
        return super.visitThrow(thrown, none);
    }

    @Override
    public Void visitTry(TryTree tried, Void none) {
        rule(6, false, tried, "a try");
        return super.visitTry(tried, none);
    }

    @Override
    public Void visitSynchronized(SynchronizedTree locked, Void none) {
        rule(6, false, locked, "synchronized");
        return super.visitSynchronized(locked, none);
    }

    @Override
    public Void visitAssert(AssertTree claim, Void none) {
        rule(6, false, claim, "assert");
        return super.visitAssert(claim, none);
    }

    @Override
    public Void visitForLoop(ForLoopTree loop, Void none) {
        rule(9, isBounded(loop.getCondition()) && loop.getUpdate().size() == 1, loop, "no counter against a bound");
        return super.visitForLoop(loop, none);
    }

    @Override
    public Void visitWhileLoop(WhileLoopTree loop, Void none) {
        rule(9, isBounded(loop.getCondition()), loop, "no counter against a bound");
        return super.visitWhileLoop(loop, none);
    }

    @Override
    public Void visitDoWhileLoop(DoWhileLoopTree loop, Void none) {
        rule(9, isBounded(loop.getCondition()), loop, "no counter against a bound");
        return super.visitDoWhileLoop(loop, none);
    }

    private static boolean isBounded(ExpressionTree condition) {
        ExpressionTree inner = condition;
        while (inner instanceof ParenthesizedTree) {
            inner = ((ParenthesizedTree) inner).getExpression();
        }
        return inner != null && Set.of(
            Tree.Kind.LESS_THAN, Tree.Kind.LESS_THAN_EQUAL, Tree.Kind.GREATER_THAN, Tree.Kind.GREATER_THAN_EQUAL)
            .contains(inner.getKind());
    }

    // ---- expressions

    @Override
    public Void visitLambdaExpression(LambdaExpressionTree lambda, Void none) {
        rule(2, false, lambda, "a lambda");
        return super.visitLambdaExpression(lambda, none);
    }

    @Override
    public Void visitMemberReference(MemberReferenceTree reference, Void none) {
        rule(2, false, reference, "a method reference");
        return super.visitMemberReference(reference, none);
    }

    @Override
    public Void visitInstanceOf(InstanceOfTree asked, Void none) {
        rule(6, false, asked, "instanceof");
        return super.visitInstanceOf(asked, none);
    }

    @Override
    public Void visitTypeCast(TypeCastTree cast, Void none) {
        rule(6, TYPES.contains(typeOf(cast)), cast, cast.toString());
        return super.visitTypeCast(cast, none);
    }

    @Override
    public Void visitNewClass(NewClassTree made, Void none) {
        rule(12, getCurrentPath().getParentPath().getLeaf() instanceof ThrowTree, made, made.toString());
        return super.visitNewClass(made, none);
    }

    @Override
    public Void visitNewArray(NewArrayTree made, Void none) {
        rule(12, enclosingMethod() == null, made, "an array that a call makes");
        return super.visitNewArray(made, none);
    }

    @Override
    public Void visitBinary(BinaryTree joined, Void none) {
        rule(10, !typeOf(joined).equals("java.lang.String"), joined, "texts joined by +");
        return super.visitBinary(joined, none);
    }

    @Override
    public Void visitCompoundAssignment(CompoundAssignmentTree joined, Void none) {
        rule(10, !typeOf(joined.getVariable()).equals("java.lang.String"), joined, "texts joined by +=");
        return super.visitCompoundAssignment(joined, none);
    }

    private String typeOf(Tree tree) {
        TypeMirror type = trees.getTypeMirror(TreePath.getPath(unit, tree));
        return String.valueOf(type);
    }

    private void texts() throws IOException {
        for (byte sign : Files.readAllBytes(SOURCE)) {
            boolean isPlain = sign == '\n' || sign >= ' ' && sign < 127;
            rule(4, isPlain, unit, "the sign " + sign);
        }
    }
}
