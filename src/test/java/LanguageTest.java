import com.sun.source.tree.AssertTree;
import com.sun.source.tree.BlockTree;
import com.sun.source.tree.ClassTree;
import com.sun.source.tree.CompilationUnitTree;
import com.sun.source.tree.ExpressionTree;
import com.sun.source.tree.ForLoopTree;
import com.sun.source.tree.IdentifierTree;
import com.sun.source.tree.LambdaExpressionTree;
import com.sun.source.tree.MemberReferenceTree;
import com.sun.source.tree.MemberSelectTree;
import com.sun.source.tree.MethodInvocationTree;
import com.sun.source.tree.MethodTree;
import com.sun.source.tree.NewArrayTree;
import com.sun.source.tree.NewClassTree;
import com.sun.source.tree.SynchronizedTree;
import com.sun.source.tree.ThrowTree;
import com.sun.source.tree.Tree;
import com.sun.source.tree.TryTree;
import com.sun.source.tree.VariableTree;
import com.sun.source.tree.WhileLoopTree;
import com.sun.source.util.JavacTask;
import com.sun.source.util.SourcePositions;
import com.sun.source.util.TreeScanner;
import com.sun.source.util.Trees;
import java.io.IOException;
import java.nio.charset.StandardCharsets;
import java.nio.file.Files;
import java.nio.file.Path;
import java.util.List;
import java.util.Map;
import java.util.Set;
import java.util.TreeMap;
import java.util.TreeSet;
import javax.lang.model.element.Modifier;
import javax.tools.JavaCompiler;
import javax.tools.StandardJavaFileManager;
import javax.tools.ToolProvider;

/**
 * The program keeps to the rules of ../shared/LANGUAGE.md, as far as its text shows it; each fault
 * is told with the number of its rule. What FaceTest sees of the rules is not looked at again.
 */
public final class LanguageTest extends TreeScanner<Void, Void> {
    private static final Path PROGRAM = Path.of("src/main/java/FaultTreeDesk.java");
    private static final Set<String> EXCEPTIONS = Set.of("IllegalStateException", "IllegalArgumentException",
        "IndexOutOfBoundsException", "ArithmeticException", "UnsupportedOperationException", "NoSuchElementException",
        "RuntimeException");
    /** What the program has of the library; rule 4 lists more. */
    private static final Set<String> LIBRARY = Set.of("Integer.bitCount", "Long.bitCount", "Math.max", "Math.min",
        "System.arraycopy");
    private static final int MOST_PARAMETERS = 7;
    private static final int MOST_LINES = 60;
    private static final int MOST_DEPTH = 8;
    private static final int MOST_CLASSES = 12;
    private static final int MOST_FIELDS = 20;

    private final CompilationUnitTree unit;
    private final SourcePositions places;
    private final Map<String, Set<String>> calls = new TreeMap<>();
    private String method = "";
    private int classes = 0;
    private int wrong = 0;

    private LanguageTest(CompilationUnitTree unit, SourcePositions places) {
        this.unit = unit;
        this.places = places;
    }

    private long lineOf(long place) {
        return unit.getLineMap().getLineNumber(place);
    }

    private void fault(int rule, Tree at, String text) {
        wrong++;
        String line = at == null ? "" : ", line " + lineOf(places.getStartPosition(unit, at));
        System.out.println("rule " + rule + line + ": " + text);
    }

    private boolean inMethod() {
        return !method.isEmpty() && !method.equals("<init>");
    }

    @Override
    public Void visitClass(ClassTree tree, Void none) {
        classes++;
        int fields = 0;
        for (Tree member : tree.getMembers()) {
            if (member instanceof BlockTree) fault(5, member, "an initialiser block");
            if (member instanceof VariableTree field && !field.getModifiers().getFlags().contains(Modifier.STATIC)) fields++;
        }
        if (fields > MOST_FIELDS) fault(11, tree, fields + " fields");
        if (inMethod()) fault(2, tree, "a class inside a method");
        return super.visitClass(tree, none);
    }

    @Override
    public Void visitMethod(MethodTree tree, Void none) {
        method = tree.getName().toString();
        calls.putIfAbsent(method, new TreeSet<>());
        long lines = lineOf(places.getEndPosition(unit, tree)) - lineOf(places.getStartPosition(unit, tree)) + 1;
        if (lines > MOST_LINES) fault(11, tree, method + " has " + lines + " lines");
        if (tree.getParameters().size() > MOST_PARAMETERS) fault(11, tree, method + " takes too many parameters");
        super.visitMethod(tree, none);
        method = "";
        return null;
    }

    @Override
    public Void visitMethodInvocation(MethodInvocationTree tree, Void none) {
        ExpressionTree called = tree.getMethodSelect();
        if (called instanceof MemberSelectTree of) {
            String name = of.toString();
            boolean library = of.getExpression() instanceof IdentifierTree && Character.isUpperCase(name.charAt(0));
            if (library && !LIBRARY.contains(name)) fault(4, tree, name + " is not of the library");
            if (!library && inMethod()) calls.get(method).add(of.getIdentifier().toString());
        } else if (inMethod()) {
            calls.get(method).add(called.toString());
        }
        return super.visitMethodInvocation(tree, none);
    }

    @Override
    public Void visitThrow(ThrowTree tree, Void none) {
        if (!inMethod()) fault(6, tree, "a throw in a constructor");
        boolean plain = tree.getExpression() instanceof NewClassTree made
            && EXCEPTIONS.contains(made.getIdentifier().toString())
            && (made.getArguments().isEmpty() || made.getArguments().get(0).getKind() == Tree.Kind.STRING_LITERAL);
        if (!plain) fault(6, tree, "not a new exception with a written text");
        // What is thrown is not looked into: its exception is the only object that a call may make.
        return null;
    }

    @Override
    public Void visitNewClass(NewClassTree tree, Void none) {
        if (inMethod()) fault(12, tree, "a call makes an object");
        return super.visitNewClass(tree, none);
    }

    @Override
    public Void visitNewArray(NewArrayTree tree, Void none) {
        if (inMethod()) fault(12, tree, "a call makes an array");
        return super.visitNewArray(tree, none);
    }

    @Override
    public Void visitForLoop(ForLoopTree tree, Void none) {
        if (tree.getCondition() == null || tree.getUpdate().isEmpty()) fault(9, tree, "a loop without a counter");
        return super.visitForLoop(tree, none);
    }

    @Override
    public Void visitWhileLoop(WhileLoopTree tree, Void none) {
        fault(9, tree, "a loop without a counter");
        return super.visitWhileLoop(tree, none);
    }

    @Override
    public Void visitLambdaExpression(LambdaExpressionTree tree, Void none) {
        fault(2, tree, "a lambda");
        return super.visitLambdaExpression(tree, none);
    }

    @Override
    public Void visitMemberReference(MemberReferenceTree tree, Void none) {
        fault(2, tree, "a method reference");
        return super.visitMemberReference(tree, none);
    }

    @Override
    public Void visitTry(TryTree tree, Void none) {
        fault(6, tree, "a try, of which the program has no need");
        return super.visitTry(tree, none);
    }

    @Override
    public Void visitSynchronized(SynchronizedTree tree, Void none) {
        fault(6, tree, "synchronized");
        return super.visitSynchronized(tree, none);
    }

    @Override
    public Void visitAssert(AssertTree tree, Void none) {
        fault(6, tree, "assert");
        return super.visitAssert(tree, none);
    }

    /** The depth of calls below a method, in which one that calls itself counts once. */
    private int depth(String name, Set<String> open) {
        int deepest = 0;
        for (String next : calls.getOrDefault(name, Set.of())) {
            if (!calls.containsKey(next) || next.equals(name)) continue;
            if (!open.add(next)) {
                fault(8, null, next + " and " + name + " call one another");
                continue;
            }
            deepest = Math.max(deepest, depth(next, open));
            open.remove(next);
        }
        return deepest + 1;
    }

    private void checkWhole(String text) {
        if (unit.getPackageName() != null) fault(1, unit, "a package line");
        if (!unit.getImports().isEmpty()) fault(4, unit, "an import, of which the program has no need");
        if (unit.getTypeDecls().size() != 1) fault(1, unit, "not one class alone");
        if (classes > MOST_CLASSES) fault(11, unit, classes + " classes");
        if (!StandardCharsets.US_ASCII.newEncoder().canEncode(text)) fault(3, unit, "a character that is not ASCII");
        for (String name : calls.keySet()) {
            int depth = depth(name, new TreeSet<>(Set.of(name)));
            if (depth > MOST_DEPTH) fault(11, null, name + " goes " + depth + " calls deep");
        }
    }

    public static void main(String[] args) throws IOException {
        JavaCompiler compiler = ToolProvider.getSystemJavaCompiler();
        try (StandardJavaFileManager files = compiler.getStandardFileManager(null, null, null)) {
            List<String> options = List.of("--release", "17", "-proc:none");
            JavacTask task = (JavacTask) compiler.getTask(null, files, null, options, null, files.getJavaFileObjects(PROGRAM));
            CompilationUnitTree unit = task.parse().iterator().next();
            LanguageTest test = new LanguageTest(unit, Trees.instance(task).getSourcePositions());
            test.scan(unit, null);
            test.checkWhole(Files.readString(PROGRAM));
            System.out.println(test.wrong == 0 ? "the program keeps to its language" : test.wrong + " faults of language");
            if (test.wrong != 0) System.exit(1);
        }
    }
}
