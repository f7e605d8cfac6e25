import com.sun.source.tree.BinaryTree;
import com.sun.source.tree.BlockTree;
import com.sun.source.tree.ClassTree;
import com.sun.source.tree.CompilationUnitTree;
import com.sun.source.tree.ForLoopTree;
import com.sun.source.tree.ImportTree;
import com.sun.source.tree.MethodInvocationTree;
import com.sun.source.tree.MethodTree;
import com.sun.source.tree.NewArrayTree;
import com.sun.source.tree.NewClassTree;
import com.sun.source.tree.ThrowTree;
import com.sun.source.tree.Tree;
import com.sun.source.tree.Tree.Kind;
import com.sun.source.tree.VariableTree;
import com.sun.source.util.JavacTask;
import com.sun.source.util.TreePathScanner;
import com.sun.source.util.Trees;
import java.io.IOException;
import java.nio.file.Files;
import java.nio.file.Path;
import java.util.EnumSet;
import java.util.Map;
import java.util.Set;
import java.util.TreeMap;
import java.util.TreeSet;
import javax.lang.model.element.Modifier;
import javax.tools.JavaCompiler;
import javax.tools.StandardJavaFileManager;
import javax.tools.ToolProvider;

/**
 * The class keeps to the rules of LANGUAGE.md that can be read off its source. Where the class needs less than a rule
 * allows, the test allows no more than it needs: it is to be widened when the class needs more.
 */
public final class LanguageTest extends TreePathScanner<Void, Void> {
    private static final Path SOURCE = Path.of("src/main/java/MoveRows.java");
    private static final int MOST_PARAMETERS = 7;
    private static final int MOST_LINES = 60;
    private static final int MOST_FIELDS = 20;
    private static final int MOST_CALLS_DEEP = 8;

    private static final Set<String> IMPORTS = Set.of("java.util.Arrays", "java.util.NoSuchElementException");
    private static final Set<String> LIBRARY = Set.of("Math.max", "Arrays.fill");
    private static final Set<String> TYPES = Set.of("int", "long", "boolean", "int[]", "long[]");
    private static final Set<String> CONSTANT_TYPES = Set.of("int", "long", "boolean");
    private static final Set<String> EXCEPTIONS = Set.of("IllegalStateException", "IllegalArgumentException",
            "UnsupportedOperationException", "NoSuchElementException");
    private static final Set<Kind> NEVER = EnumSet.of(Kind.PACKAGE, Kind.INTERFACE, Kind.ENUM, Kind.RECORD,
            Kind.ANNOTATION, Kind.LAMBDA_EXPRESSION, Kind.MEMBER_REFERENCE, Kind.TRY, Kind.SYNCHRONIZED, Kind.ASSERT,
            Kind.INSTANCE_OF, Kind.TYPE_CAST, Kind.NULL_LITERAL, Kind.WHILE_LOOP, Kind.DO_WHILE_LOOP,
            Kind.ENHANCED_FOR_LOOP, Kind.DIVIDE_ASSIGNMENT, Kind.REMAINDER_ASSIGNMENT, Kind.DOUBLE_LITERAL,
            Kind.FLOAT_LITERAL);

    private static final Checks checks = new Checks();

    private final CompilationUnitTree unit;
    private final Trees trees;
    private final Set<String> constants = new TreeSet<>();
    private final Map<String, Set<String>> callsOf = new TreeMap<>();
    private MethodTree method = null;
    private int fields = 0;

    private LanguageTest(CompilationUnitTree unit, Trees trees) {
        this.unit = unit;
        this.trees = trees;
    }

    public static void main(String[] args) throws IOException {
        checks.due("rule 3: the source has no character above 255",
                Files.readString(SOURCE).chars().allMatch(c -> c <= 255));
        JavaCompiler compiler = ToolProvider.getSystemJavaCompiler();
        try (StandardJavaFileManager files = compiler.getStandardFileManager(null, null, null)) {
            JavacTask task = (JavacTask) compiler.getTask(null, files, null, null, null, files.getJavaFileObjects(SOURCE));
            for (CompilationUnitTree unit : task.parse()) {
                new LanguageTest(unit, Trees.instance(task)).lookAtAll();
            }
        }
        checks.end("LanguageTest");
    }

    private void lookAtAll() {
        checks.due("rule 1: classes in the file", unit.getTypeDecls().size(), 1);
        scan(unit, null);
        checks.due("rule 11: " + fields + " fields are not too many", fields <= MOST_FIELDS);
        for (String name : callsOf.keySet()) {
            int deep = depthOf(name, 1);
            checks.due("rules 8 and 11: the calls of " + name + " go " + deep + " deep", deep <= MOST_CALLS_DEEP);
        }
    }

    /** How many calls stand open at most below a method, itself counted; a recursion goes over every bound. */
    private int depthOf(String name, int above) {
        int deepest = above;
        if (above <= MOST_CALLS_DEEP) {
            for (String called : callsOf.getOrDefault(name, Set.of())) {
                deepest = Math.max(deepest, depthOf(called, above + 1));
            }
        }
        return deepest;
    }

    private void rule(int number, String words, Tree tree, boolean holds) {
        checks.due("line " + lineOf(tree) + ", rule " + number + ": " + words, holds);
    }

    private long lineOf(Tree tree) {
        return unit.getLineMap().getLineNumber(trees.getSourcePositions().getStartPosition(unit, tree));
    }

    private boolean isUnder(Kind parent) {
        return getCurrentPath().getParentPath().getLeaf().getKind() == parent;
    }

    @Override
    public Void scan(Tree tree, Void none) {
        if (tree != null && NEVER.contains(tree.getKind())) {
            checks.due("line " + lineOf(tree) + ": the class needs no " + tree.getKind(), false);
        }
        return super.scan(tree, none);
    }

    @Override
    public Void visitImport(ImportTree tree, Void none) {
        String name = tree.getQualifiedIdentifier().toString();
        rule(4, "import of " + name, tree, !tree.isStatic() && IMPORTS.contains(name));
        return super.visitImport(tree, none);
    }

    @Override
    public Void visitClass(ClassTree tree, Void none) {
        rule(1, "the class is MoveRows alone", tree, tree.getSimpleName().contentEquals("MoveRows"));
        rule(2, "it extends and implements nothing", tree,
                tree.getExtendsClause() == null && tree.getImplementsClause().isEmpty());
        for (Tree member : tree.getMembers()) {
            if (member instanceof VariableTree field && field.getModifiers().getFlags().contains(Modifier.STATIC)) {
                constants.add(field.getName().toString());
            }
        }
        return super.visitClass(tree, none);
    }

    @Override
    public Void visitBlock(BlockTree tree, Void none) {
        rule(5, "no initialiser block", tree, !isUnder(Kind.CLASS));
        return super.visitBlock(tree, none);
    }

    @Override
    public Void visitVariable(VariableTree tree, Void none) {
        String type = String.valueOf(tree.getType());
        rule(3, "the type of " + tree.getName() + " is " + type, tree, TYPES.contains(type));
        if (isUnder(Kind.CLASS)) {
            Set<Modifier> flags = tree.getModifiers().getFlags();
            rule(1, tree.getName() + " is private", tree, flags.contains(Modifier.PRIVATE));
            if (flags.contains(Modifier.STATIC)) {
                rule(5, tree.getName() + " is a constant", tree, flags.contains(Modifier.FINAL)
                        && tree.getInitializer() != null && CONSTANT_TYPES.contains(type));
            } else {
                fields++;
            }
        }
        return super.visitVariable(tree, none);
    }

    @Override
    public Void visitMethod(MethodTree tree, Void none) {
        long end = trees.getSourcePositions().getEndPosition(unit, tree);
        long lines = unit.getLineMap().getLineNumber(end) - lineOf(tree) + 1;
        rule(11, tree.getName() + " has " + lines + " lines", tree, lines <= MOST_LINES);
        rule(11, tree.getName() + "'s parameters", tree, tree.getParameters().size() <= MOST_PARAMETERS);
        callsOf.putIfAbsent(tree.getName().toString(), new TreeSet<>());
        method = tree;
        super.visitMethod(tree, none);
        method = null;
        return null;
    }

    @Override
    public Void visitMethodInvocation(MethodInvocationTree tree, Void none) {
        String called = tree.getMethodSelect().toString();
        if (tree.getMethodSelect().getKind() == Kind.MEMBER_SELECT) {
            rule(4, "call of " + called, tree, LIBRARY.contains(called));
        } else if (method == null) {
            rule(12, "no call of " + called + " outside a method", tree, false);
        } else if (!called.equals("super")) {
            callsOf.get(method.getName().toString()).add(called);
        }
        return super.visitMethodInvocation(tree, none);
    }

    @Override
    public Void visitThrow(ThrowTree tree, Void none) {
        rule(6, "a throw makes what it throws", tree, tree.getExpression().getKind() == Kind.NEW_CLASS);
        rule(6, "no throw in a constructor", tree, method != null && method.getReturnType() != null);
        return super.visitThrow(tree, none);
    }

    @Override
    public Void visitNewClass(NewClassTree tree, Void none) {
        String name = tree.getIdentifier().toString();
        rule(12, "an object is made to be thrown alone", tree, isUnder(Kind.THROW));
        rule(6, "new " + name, tree, EXCEPTIONS.contains(name) && tree.getClassBody() == null);
        rule(6, "with a written text", tree, tree.getArguments().size() == 1
                && tree.getArguments().get(0).getKind() == Kind.STRING_LITERAL);
        return super.visitNewClass(tree, none);
    }

    @Override
    public Void visitNewArray(NewArrayTree tree, Void none) {
        rule(12, "arrays are made with the object alone", tree, isUnder(Kind.VARIABLE) && method == null);
        rule(3, "arrays have one dimension, written out in constants", tree,
                tree.getDimensions().size() == 1 && isOfConstants(tree.getDimensions().get(0)));
        return super.visitNewArray(tree, none);
    }

    private boolean isOfConstants(Tree tree) {
        if (tree instanceof BinaryTree two) {
            return isOfConstants(two.getLeftOperand()) && isOfConstants(two.getRightOperand());
        }
        return tree.getKind() == Kind.INT_LITERAL || constants.contains(tree.toString());
    }

    @Override
    public Void visitBinary(BinaryTree tree, Void none) {
        if (tree.getKind() == Kind.DIVIDE || tree.getKind() == Kind.REMAINDER) {
            rule(7, "the divisor is a constant", tree, constants.contains(tree.getRightOperand().toString()));
        }
        rule(10, "no texts are joined", tree, tree.getLeftOperand().getKind() != Kind.STRING_LITERAL
                && tree.getRightOperand().getKind() != Kind.STRING_LITERAL);
        return super.visitBinary(tree, none);
    }

    @Override
    public Void visitForLoop(ForLoopTree tree, Void none) {
        boolean counts = tree.getInitializer().size() == 1 && tree.getUpdate().size() == 1
                && tree.getInitializer().get(0) instanceof VariableTree;
        rule(9, "the loop counts", tree, counts);
        if (counts) {
            String counter = ((VariableTree) tree.getInitializer().get(0)).getName().toString();
            String end = String.valueOf(tree.getCondition());
            String step = tree.getUpdate().get(0).toString();
            boolean up = end.startsWith(counter + " < ") && step.equals(counter + "++;");
            boolean down = end.equals(counter + " >= 0") && step.equals(counter + "--;");
            rule(9, "the loop over " + counter + " has an end", tree, up || down);
        }
        return super.visitForLoop(tree, none);
    }
}
