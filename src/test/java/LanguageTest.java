import com.sun.source.tree.AssertTree;
import com.sun.source.tree.BinaryTree;
import com.sun.source.tree.ClassTree;
import com.sun.source.tree.CompilationUnitTree;
import com.sun.source.tree.DoWhileLoopTree;
import com.sun.source.tree.ExpressionTree;
import com.sun.source.tree.ForLoopTree;
import com.sun.source.tree.ImportTree;
import com.sun.source.tree.LambdaExpressionTree;
import com.sun.source.tree.LiteralTree;
import com.sun.source.tree.MemberReferenceTree;
import com.sun.source.tree.MethodInvocationTree;
import com.sun.source.tree.MethodTree;
import com.sun.source.tree.NewArrayTree;
import com.sun.source.tree.NewClassTree;
import com.sun.source.tree.SynchronizedTree;
import com.sun.source.tree.ThrowTree;
import com.sun.source.tree.Tree;
import com.sun.source.tree.TryTree;
import com.sun.source.tree.VariableTree;
import com.sun.source.tree.WhileLoopTree;
import com.sun.source.util.JavacTask;
import com.sun.source.util.TreeScanner;
import com.sun.source.util.Trees;
import java.io.IOException;
import java.nio.file.Path;
import java.util.HashMap;
import java.util.HashSet;
import java.util.List;
import java.util.Map;
import java.util.Set;
import java.util.TreeSet;
import javax.lang.model.element.Modifier;
import javax.tools.JavaCompiler;
import javax.tools.StandardJavaFileManager;
import javax.tools.ToolProvider;

/**
 * The rules of LANGUAGE.md that can be told from the program's text, as narrow as this program needs
 * them: what it does not use (try, lists, texts, lambdas) is refused here though a rule may allow it.
 */
public final class LanguageTest extends TreeScanner<Void, Void> {
    private static final Path PROGRAM = Path.of("src", "main", "java", "CaseDesk.java");
    private static final Set<String> IMPORTS = Set.of("java.util.NoSuchElementException");
    private static final Set<String> EXCEPTIONS = Set.of("IllegalStateException",
            "IllegalArgumentException", "UnsupportedOperationException", "NoSuchElementException");
    private static final Set<String> LIBRARY = Set.of("System.arraycopy", "Math.floorMod");
    private static final Set<String> TYPES = Set.of("int", "boolean", "int[]", "boolean[]", "Plan", "Life");
    private static final int MOST_LINES = 60;
    private static final int MOST_PARAMETERS = 7;
    private static final int MOST_CLASSES = 12;
    private static final int MOST_FIELDS = 20;
    private static final int MOST_OPEN_CALLS = 8;

    private final Due due = new Due();
    private final Map<String, Set<String>> calls = new HashMap<>();
    private final Trees trees;
    private CompilationUnitTree unit;
    private int classes;
    private String method = "";
    private boolean inThrow;

    private LanguageTest(Trees trees) {
        this.trees = trees;
    }

    public static void main(String[] args) throws IOException {
        JavaCompiler compiler = ToolProvider.getSystemJavaCompiler();
        try (StandardJavaFileManager files = compiler.getStandardFileManager(null, null, null)) {
            JavacTask task = (JavacTask) compiler.getTask(null, files, null, null, null,
                    files.getJavaFileObjects(PROGRAM));
            LanguageTest test = new LanguageTest(Trees.instance(task));
            for (CompilationUnitTree unit : task.parse()) {
                test.readAll(unit);
            }
            test.due.end();
        }
    }

    private void readAll(CompilationUnitTree read) {
        unit = read;
        due.is("there is no package line", unit.getPackageName() == null, true);
        due.is("one class at the top", unit.getTypeDecls().size(), 1);
        scan(unit, null);
        atMost("classes (rule 11)", classes, MOST_CLASSES);
        for (String name : calls.keySet()) {
            atMost("calls that stand open below " + name + " (rule 11)",
                    depth(name, new HashSet<>()), MOST_OPEN_CALLS);
        }
    }

    private void atMost(String what, int count, int most) {
        due.is(what + ": " + count + ", at most " + most, count <= most, true);
    }

    private void oneOf(String what, String got, Set<String> allowed) {
        due.is(what + " " + got, allowed.contains(got), true);
    }

    private void never(String what, Tree tree) {
        due.is(what + ": " + tree, false, true);
    }

    @Override
    public Void visitImport(ImportTree tree, Void none) {
        oneOf("import (rule 4)", tree.getQualifiedIdentifier().toString(), IMPORTS);
        return super.visitImport(tree, none);
    }

    @Override
    public Void visitClass(ClassTree tree, Void none) {
        classes++;
        Set<Modifier> flags = tree.getModifiers().getFlags();
        Set<Modifier> wanted = classes == 1 ? Set.of(Modifier.PUBLIC, Modifier.FINAL)
                : Set.of(Modifier.PRIVATE, Modifier.STATIC, Modifier.FINAL);
        due.same("modifiers of " + tree.getSimpleName() + " (rule 1)",
                new TreeSet<>(flags).toString(), new TreeSet<>(wanted).toString());
        int fields = 0;
        for (Tree member : tree.getMembers()) {
            due.is("no initialiser block (rule 5)", member.getKind() == Tree.Kind.BLOCK, false);
            if (member instanceof VariableTree field) {
                boolean isStatic = field.getModifiers().getFlags().contains(Modifier.STATIC);
                fields += isStatic ? 0 : 1;
                due.is(field.getName() + ": static fields are final (rule 5)",
                        !isStatic || field.getModifiers().getFlags().contains(Modifier.FINAL), true);
            }
        }
        atMost("fields of " + tree.getSimpleName() + " (rule 11)", fields, MOST_FIELDS);
        return super.visitClass(tree, none);
    }

    @Override
    public Void visitMethod(MethodTree tree, Void none) {
        method = tree.getName().toString();
        due.is("one method of a name: " + method, method.equals("<init>") || !calls.containsKey(method), true);
        calls.putIfAbsent(method, new TreeSet<>());
        atMost("parameters of " + method + " (rule 11)", tree.getParameters().size(), MOST_PARAMETERS);
        long first = trees.getSourcePositions().getStartPosition(unit, tree);
        long last = trees.getSourcePositions().getEndPosition(unit, tree);
        long lines = unit.getLineMap().getLineNumber(last) - unit.getLineMap().getLineNumber(first) + 1;
        atMost("lines of " + method + " (rule 11)", (int) lines, MOST_LINES);
        super.visitMethod(tree, none);
        method = "";
        return null;
    }

    @Override
    public Void visitVariable(VariableTree tree, Void none) {
        oneOf("type of " + tree.getName() + " (rule 3)", String.valueOf(tree.getType()), TYPES);
        return super.visitVariable(tree, none);
    }

    @Override
    public Void visitMethodInvocation(MethodInvocationTree tree, Void none) {
        String called = tree.getMethodSelect().toString();
        if (called.startsWith("System.") || called.startsWith("Math.")) {
            oneOf("library (rule 4)", called, LIBRARY);
        } else {
            calls.computeIfAbsent(method, name -> new TreeSet<>())
                    .add(called.substring(called.lastIndexOf('.') + 1));
        }
        return super.visitMethodInvocation(tree, none);
    }

    /** "throw new E("a written text")", and never in a constructor. */
    @Override
    public Void visitThrow(ThrowTree tree, Void none) {
        due.is("no throw in a constructor (rule 6)", method.equals("<init>"), false);
        if (tree.getExpression() instanceof NewClassTree thrown) {
            oneOf("throw (rule 6)", thrown.getIdentifier().toString(), EXCEPTIONS);
            for (ExpressionTree argument : thrown.getArguments()) {
                due.is("a written text: " + argument, argument.getKind() == Tree.Kind.STRING_LITERAL, true);
            }
        } else {
            never("throw of what isn't made there (rule 6)", tree);
        }
        inThrow = true;
        super.visitThrow(tree, none);
        inThrow = false;
        return null;
    }

    /** Rule 12, as this program keeps it: what is made is made with the desk, but for an exception. */
    @Override
    public Void visitNewClass(NewClassTree tree, Void none) {
        due.is("made by a call: " + tree, inThrow || method.equals("<init>"), true);
        due.is("no class without a name: " + tree, tree.getClassBody() == null, true);
        return super.visitNewClass(tree, none);
    }

    @Override
    public Void visitNewArray(NewArrayTree tree, Void none) {
        due.is("made by a call: " + tree, method.isEmpty(), true);
        return super.visitNewArray(tree, none);
    }

    @Override
    public Void visitLiteral(LiteralTree tree, Void none) {
        due.is("a text that isn't an exception's: " + tree,
                tree.getKind() == Tree.Kind.STRING_LITERAL && !inThrow, false);
        return super.visitLiteral(tree, none);
    }

    /** No divisor but a constant, so none that could be 0 (rule 7). */
    @Override
    public Void visitBinary(BinaryTree tree, Void none) {
        if (tree.getKind() == Tree.Kind.DIVIDE || tree.getKind() == Tree.Kind.REMAINDER) {
            oneOf("divisor", tree.getRightOperand().toString(), Set.of("REMEMBERED"));
        }
        return super.visitBinary(tree, none);
    }

    /** A counter against a bound (rule 9): there is no other loop in the program. */
    @Override
    public Void visitForLoop(ForLoopTree tree, Void none) {
        String update = tree.getUpdate().size() == 1 ? tree.getUpdate().get(0).getExpression().toString() : "";
        due.is("a counter (rule 9): " + tree, update.matches("\\w+\\+\\+"), true);
        String counter = update.replace("++", "");
        due.is("against a bound (rule 9): " + tree,
                String.valueOf(tree.getCondition()).matches(counter + " <=? [\\w.\\[\\]]+( && .*)?"), true);
        return super.visitForLoop(tree, none);
    }

    @Override
    public Void visitWhileLoop(WhileLoopTree tree, Void none) {
        never("while", tree);
        return super.visitWhileLoop(tree, none);
    }

    @Override
    public Void visitDoWhileLoop(DoWhileLoopTree tree, Void none) {
        never("do", tree);
        return super.visitDoWhileLoop(tree, none);
    }

    @Override
    public Void visitTry(TryTree tree, Void none) {
        never("try (rule 6)", tree);
        return super.visitTry(tree, none);
    }

    @Override
    public Void visitLambdaExpression(LambdaExpressionTree tree, Void none) {
        never("lambda (rule 2)", tree);
        return super.visitLambdaExpression(tree, none);
    }

    @Override
    public Void visitMemberReference(MemberReferenceTree tree, Void none) {
        never("method reference (rule 2)", tree);
        return super.visitMemberReference(tree, none);
    }

    @Override
    public Void visitSynchronized(SynchronizedTree tree, Void none) {
        never("synchronized (rule 6)", tree);
        return super.visitSynchronized(tree, none);
    }

    @Override
    public Void visitAssert(AssertTree tree, Void none) {
        never("assert (rule 6)", tree);
        return super.visitAssert(tree, none);
    }

    /** The longest chain of calls from the method that comes to none of its methods twice. */
    private int depth(String name, Set<String> open) {
        if (!calls.containsKey(name) || !open.add(name)) {
            return 0;
        }
        int deepest = 0;
        for (String called : List.copyOf(calls.get(name))) {
            deepest = Math.max(deepest, depth(called, open));
        }
        open.remove(name);
        return deepest + 1;
    }
}
