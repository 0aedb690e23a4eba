import com.sun.source.tree.BinaryTree;
import com.sun.source.tree.BlockTree;
import com.sun.source.tree.ClassTree;
import com.sun.source.tree.CompilationUnitTree;
import com.sun.source.tree.ImportTree;
import com.sun.source.tree.LiteralTree;
import com.sun.source.tree.MethodInvocationTree;
import com.sun.source.tree.MethodTree;
import com.sun.source.tree.NewClassTree;
import com.sun.source.tree.ThrowTree;
import com.sun.source.tree.Tree;
import com.sun.source.tree.VariableTree;
import com.sun.source.util.JavacTask;
import com.sun.source.util.SourcePositions;
import com.sun.source.util.TreeScanner;
import com.sun.source.util.Trees;
import java.io.IOException;
import java.nio.file.Path;
import java.util.ArrayList;
import java.util.Collections;
import java.util.HashMap;
import java.util.List;
import java.util.Map;
import java.util.Set;
import java.util.TreeSet;
import javax.lang.model.element.Modifier;
import javax.tools.JavaCompiler;
import javax.tools.StandardJavaFileManager;
import javax.tools.ToolProvider;

/**
 * The program keeps to those rules of LANGUAGE.md that can be seen from its text. It uses less
 * than they allow, and this test allows only little more than it uses: no recursion, no lists,
 * no catch. Who needs more of the language makes this test wider.
 */
public final class LanguageTest extends TreeScanner<Void, Void> {
    private static final Path PROGRAM = Path.of("src", "main", "java", "MountTable.java");

    private static final Set<String> EXCEPTIONS = Set.of("IllegalStateException", "IllegalArgumentException",
            "IndexOutOfBoundsException", "ArithmeticException", "UnsupportedOperationException",
            "NoSuchElementException", "RuntimeException");

    private static final Set<String> STATIC_TYPES =
            Set.of("int", "long", "boolean", "char", "String", "int[]", "long[]", "char[]", "byte[]");

    /** What the rules leave out, and what this test asks to be left out beside that. */
    private static final Set<Tree.Kind> NOT_USED = Set.of(
            Tree.Kind.LAMBDA_EXPRESSION, Tree.Kind.MEMBER_REFERENCE, Tree.Kind.SYNCHRONIZED, Tree.Kind.ASSERT,
            Tree.Kind.TRY, Tree.Kind.WHILE_LOOP, Tree.Kind.DO_WHILE_LOOP, Tree.Kind.TYPE_CAST,
            Tree.Kind.INSTANCE_OF, Tree.Kind.SWITCH_EXPRESSION, Tree.Kind.LABELED_STATEMENT);

    private static final Checks CHECKS = new Checks();

    private final CompilationUnitTree file;
    private final SourcePositions positions;
    private final List<String> faults = new ArrayList<>();
    private final Map<String, Set<String>> callsOf = new HashMap<>();
    private String method = "";
    private int classes;

    private LanguageTest(CompilationUnitTree file, SourcePositions positions) {
        this.file = file;
        this.positions = positions;
    }

    public static void main(String[] args) throws IOException {
        JavaCompiler compiler = ToolProvider.getSystemJavaCompiler();
        try (StandardJavaFileManager files = compiler.getStandardFileManager(null, null, null)) {
            JavacTask task = (JavacTask) compiler.getTask(
                    null, files, null, List.of(), null, files.getJavaFileObjects(PROGRAM));
            for (CompilationUnitTree file : task.parse()) {
                new LanguageTest(file, Trees.instance(task).getSourcePositions()).go();
            }
        }
        CHECKS.end();
    }

    private void go() {
        scan(file, null);
        CHECKS.due("[]", "what is against a rule", () -> faults);
        CHECKS.due(null, "a package line", () -> file.getPackage());
        CHECKS.due(1, "classes that stand alone", () -> file.getTypeDecls().size());
        CHECKS.due(true, "at most twelve classes, rule 11", () -> classes <= 12);
        CHECKS.due("[]", "called methods that are not of this file, rule 4", () -> strangers());
        int deepest = 0;
        for (String begun : callsOf.keySet()) {
            deepest = Math.max(deepest, depth(begun, 1));
        }
        int found = deepest;
        CHECKS.due(true, "calls at most eight deep without recursion, rules 8 and 11: " + found, () -> found <= 8);
    }

    private void keep(boolean isRight, Tree where, String rule) {
        if (!isRight) {
            long line = file.getLineMap().getLineNumber(positions.getStartPosition(file, where));
            faults.add("line " + line + ": " + rule);
        }
    }

    /** Calls of methods that are not written in this file: the program needs no library. */
    private List<String> strangers() {
        Set<String> called = new TreeSet<>();
        for (Set<String> calls : callsOf.values()) {
            called.addAll(calls);
        }
        called.removeAll(callsOf.keySet());
        return new ArrayList<>(called);
    }

    private int depth(String begun, int depth) {
        int deepest = depth;
        // A ring of calls would go on for ever; eight are too many already.
        for (String called : depth > 8 ? Set.<String>of() : callsOf.getOrDefault(begun, Set.of())) {
            deepest = Math.max(deepest, depth(called, depth + 1));
        }
        return deepest;
    }

    @Override
    public Void scan(Tree tree, Void none) {
        if (tree != null) {
            boolean isPlainCast = tree.getKind() == Tree.Kind.TYPE_CAST
                    && tree.toString().matches("\\((float|double)\\)[\\w.()]+");
            keep(!NOT_USED.contains(tree.getKind()) || isPlainCast, tree, "not of the language that is used here");
        }
        return super.scan(tree, none);
    }

    @Override
    public Void visitImport(ImportTree tree, Void none) {
        String name = tree.getQualifiedIdentifier().toString();
        keep(name.equals("java.util.NoSuchElementException"), tree, "an import, rule 4");
        return super.visitImport(tree, none);
    }

    @Override
    public Void visitClass(ClassTree tree, Void none) {
        Set<Modifier> flags = tree.getModifiers().getFlags();
        boolean isOuter = classes == 0;
        classes++;
        keep(isOuter ? flags.contains(Modifier.PUBLIC) : flags.contains(Modifier.STATIC), tree, "a class, rule 1");
        keep(isOuter || !flags.contains(Modifier.PUBLIC) && !flags.contains(Modifier.PROTECTED), tree, "a class, rule 1");
        int fields = 0;
        for (Tree member : tree.getMembers()) {
            fields += member instanceof VariableTree field && isKept(field) ? 1 : 0;
            keep(!(member instanceof BlockTree), member, "an initialiser block, rule 5");
        }
        keep(fields <= 20, tree, "more than twenty fields, rule 11");
        return super.visitClass(tree, none);
    }

    /** Whether a field is one of an object; one of the class is looked at here. */
    private boolean isKept(VariableTree field) {
        boolean isStatic = field.getModifiers().getFlags().contains(Modifier.STATIC);
        boolean isConstant = field.getModifiers().getFlags().contains(Modifier.FINAL)
                && STATIC_TYPES.contains(field.getType().toString());
        keep(!isStatic || isConstant, field, "a static field that is no constant, rule 5");
        return !isStatic;
    }

    @Override
    public Void visitMethod(MethodTree tree, Void none) {
        String outer = method;
        method = tree.getName().toString();
        callsOf.computeIfAbsent(method, key -> new TreeSet<>());
        keep(tree.getParameters().size() <= 7, tree, "more than seven parameters, rule 11");
        keep(lines(tree) <= 60, tree, "more than sixty lines, rule 11");
        keep(!Set.of("equals", "hashCode", "toString").contains(method), tree, "a method of all objects, rule 6");
        super.visitMethod(tree, none);
        method = outer;
        return null;
    }

    private long lines(Tree tree) {
        long first = file.getLineMap().getLineNumber(positions.getStartPosition(file, tree));
        return file.getLineMap().getLineNumber(positions.getEndPosition(file, tree)) - first + 1;
    }

    @Override
    public Void visitMethodInvocation(MethodInvocationTree tree, Void none) {
        String called = tree.getMethodSelect().toString();
        String name = called.substring(called.lastIndexOf('.') + 1);
        callsOf.computeIfAbsent(method, key -> new TreeSet<>()).add(name);
        return super.visitMethodInvocation(tree, none);
    }

    @Override
    public Void visitThrow(ThrowTree tree, Void none) {
        boolean isNew = tree.getExpression() instanceof NewClassTree made
                && EXCEPTIONS.contains(made.getIdentifier().toString())
                && made.getArguments().stream().allMatch(text -> text.getKind() == Tree.Kind.STRING_LITERAL);
        keep(isNew && !method.equals("<init>"), tree, "a throw, rule 6");
        return super.visitThrow(tree, none);
    }

    @Override
    public Void visitNewClass(NewClassTree tree, Void none) {
        keep(tree.getClassBody() == null, tree, "a class without a name, rule 2");
        return super.visitNewClass(tree, none);
    }

    @Override
    public Void visitBinary(BinaryTree tree, Void none) {
        boolean isOfNumbers = Collections.disjoint(List.of(tree.getLeftOperand().getKind(),
                tree.getRightOperand().getKind()), List.of(Tree.Kind.STRING_LITERAL));
        keep(isOfNumbers, tree, "a text in a sum or a comparison, rules 6 and 10");
        return super.visitBinary(tree, none);
    }

    @Override
    public Void visitLiteral(LiteralTree tree, Void none) {
        boolean isPlain = !(tree.getValue() instanceof String text) || text.chars().allMatch(sign -> sign > 0 && sign < 128);
        keep(isPlain, tree, "a sign above 127, rule 4");
        return super.visitLiteral(tree, none);
    }
}
