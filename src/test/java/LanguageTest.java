import com.sun.source.tree.ArrayAccessTree;
import com.sun.source.tree.AssignmentTree;
import com.sun.source.tree.BinaryTree;
import com.sun.source.tree.ClassTree;
import com.sun.source.tree.CompilationUnitTree;
import com.sun.source.tree.CompoundAssignmentTree;
import com.sun.source.tree.ExpressionTree;
import com.sun.source.tree.ForLoopTree;
import com.sun.source.tree.IdentifierTree;
import com.sun.source.tree.LineMap;
import com.sun.source.tree.MemberSelectTree;
import com.sun.source.tree.MethodInvocationTree;
import com.sun.source.tree.MethodTree;
import com.sun.source.tree.NewArrayTree;
import com.sun.source.tree.NewClassTree;
import com.sun.source.tree.Tree;
import com.sun.source.tree.UnaryTree;
import com.sun.source.tree.VariableTree;
import com.sun.source.util.JavacTask;
import com.sun.source.util.SourcePositions;
import com.sun.source.util.TreeScanner;
import com.sun.source.util.Trees;
import java.nio.file.Path;
import java.util.HashMap;
import java.util.List;
import java.util.Map;
import java.util.Set;
import java.util.TreeSet;
import javax.lang.model.element.Modifier;
import javax.tools.JavaCompiler;
import javax.tools.StandardJavaFileManager;
import javax.tools.ToolProvider;

/** The rules of ../shared/LANGUAGE.md that can be seen from the form of the program. */
public final class LanguageTest extends TreeScanner<Void, String> {
    /** Some of them the rules would allow in places, but the program does without them. */
    private static final Set<Tree.Kind> RULED_OUT = Set.of(
        Tree.Kind.THROW, Tree.Kind.TRY, Tree.Kind.CATCH, Tree.Kind.SYNCHRONIZED, Tree.Kind.ASSERT,
        Tree.Kind.LAMBDA_EXPRESSION, Tree.Kind.MEMBER_REFERENCE, Tree.Kind.SWITCH_EXPRESSION,
        Tree.Kind.BINDING_PATTERN, Tree.Kind.IMPORT, Tree.Kind.PACKAGE, Tree.Kind.ANNOTATION,
        Tree.Kind.WHILE_LOOP, Tree.Kind.DO_WHILE_LOOP, Tree.Kind.ENHANCED_FOR_LOOP, Tree.Kind.TYPE_CAST,
        Tree.Kind.INSTANCE_OF, Tree.Kind.STRING_LITERAL, Tree.Kind.NULL_LITERAL);
    private static final Set<String> TYPES = Set.of("int", "boolean", "int[]", "boolean[]",
        "Net", "Claim", "Chip", "Router", "Script", "Net[]", "Claim[]", "Chip[]");
    private static final Set<String> LIBRARY = Set.of("System.arraycopy", "Math.min", "Math.max", "Integer.bitCount");

    private final CompilationUnitTree unit;
    private final SourcePositions positions;
    private final Map<String, Set<String>> callees = new HashMap<>();
    private final Set<String> declared = new TreeSet<>();
    private final Set<String> publicNames = new TreeSet<>();
    private final Set<String> otherNames = new TreeSet<>();
    private int classes = 0;

    private LanguageTest(CompilationUnitTree unit, SourcePositions positions) {
        this.unit = unit;
        this.positions = positions;
    }

    public static void main(String[] args) throws java.io.IOException {
        JavaCompiler compiler = ToolProvider.getSystemJavaCompiler();
        try (StandardJavaFileManager files = compiler.getStandardFileManager(null, null, null)) {
            JavacTask task = (JavacTask) compiler.getTask(null, files, null, null, null,
                files.getJavaFileObjects(Path.of("src/main/java/WireDigs.java")));
            CompilationUnitTree unit = task.parse().iterator().next();
            LanguageTest test = new LanguageTest(unit, Trees.instance(task).getSourcePositions());
            test.scan(unit, "");
            Check.dueThat("at most twelve classes: " + test.classes, test.classes <= 12);
            test.depths();
            test.otherNames.remove("<init>");
            for (String name : test.otherNames) {
                Check.dueThat(name + " bears no public name", !test.publicNames.contains(name));
            }
        }
        Check.finish();
    }

    @Override
    public Void scan(Tree tree, String method) {
        if (tree != null) {
            Check.dueThat("line " + lineOf(positions.getStartPosition(unit, tree)) + " without " + tree.getKind(),
                !RULED_OUT.contains(tree.getKind()));
        }
        return super.scan(tree, method);
    }

    private long lineOf(long position) {
        LineMap lines = unit.getLineMap();
        return lines.getLineNumber(Math.max(0, position));
    }

    @Override
    public Void visitClass(ClassTree tree, String method) {
        classes++;
        int fields = 0;
        boolean outer = tree.getSimpleName().contentEquals("WireDigs");
        Check.dueThat("class " + tree.getSimpleName() + " inside is static",
            outer || tree.getModifiers().getFlags().contains(Modifier.STATIC));
        Check.dueThat("no class inside a method", method.isEmpty());
        for (Tree member : tree.getMembers()) {
            if (member instanceof VariableTree) {
                Set<Modifier> flags = ((VariableTree) member).getModifiers().getFlags();
                boolean isStatic = flags.contains(Modifier.STATIC);
                Check.dueThat("a static field is final: " + member, !isStatic || flags.contains(Modifier.FINAL));
                fields += isStatic ? 0 : 1;
            }
            Check.dueThat("no initialiser block", member.getKind() != Tree.Kind.BLOCK);
        }
        Check.dueThat("at most twenty fields in " + tree.getSimpleName(), fields <= 20);
        return super.visitClass(tree, method);
    }

    @Override
    public Void visitMethod(MethodTree tree, String method) {
        long begin = lineOf(positions.getStartPosition(unit, tree));
        long lines = lineOf(positions.getEndPosition(unit, tree)) - begin + 1;
        Check.dueThat(tree.getName() + " is short: " + lines, lines <= 60);
        declared.add(tree.getName().toString());
        boolean isPublic = tree.getModifiers().getFlags().contains(Modifier.PUBLIC);
        (isPublic ? publicNames : otherNames).add(tree.getName().toString());
        Check.dueThat(tree.getName() + " takes at most seven", tree.getParameters().size() <= 7);
        Tree answer = tree.getReturnType();
        Check.dueThat(tree.getName() + " answers a type of the rules",
            answer == null || answer.toString().equals("void") || TYPES.contains(answer.toString()));
        return super.visitMethod(tree, tree.getName().toString());
    }

    @Override
    public Void visitVariable(VariableTree tree, String method) {
        Check.dueThat(tree + " is of a type of the rules", TYPES.contains(tree.getType().toString()));
        return super.visitVariable(tree, method);
    }

    /** A counter that goes by one, a bound, and no other change of the counter. */
    @Override
    public Void visitForLoop(ForLoopTree tree, String method) {
        String loop = "the end of the loop in line " + lineOf(positions.getStartPosition(unit, tree)) + " is seen";
        Check.dueThat(loop, tree.getInitializer().size() == 1 && tree.getUpdate().size() == 1);
        String counter = ((VariableTree) tree.getInitializer().get(0)).getName().toString();
        String update = tree.getUpdate().get(0).toString();
        String condition = String.valueOf(tree.getCondition());
        Check.dueThat(loop, update.equals(counter + "++;") && condition.contains(counter + " < ")
            || update.equals(counter + "--;") && condition.contains(counter + " > "));
        Check.dueThat(loop, !condition.contains("||"));
        Check.dueThat(loop, tree.getStatement().toString().lines().noneMatch(
            line -> line.strip().matches("(" + counter + " [-+*/%]?=|(\\+\\+|--)?" + counter + "(\\+\\+|--)?;).*")));
        return super.visitForLoop(tree, method);
    }

    @Override
    public Void visitBinary(BinaryTree tree, String method) {
        if (tree.getKind() == Tree.Kind.DIVIDE || tree.getKind() == Tree.Kind.REMAINDER) {
            Check.dueThat("the divisor of " + tree + " is a constant", isConstant(tree.getRightOperand()));
        }
        return super.visitBinary(tree, method);
    }

    private static boolean isConstant(ExpressionTree tree) {
        return tree.toString().matches("[1-9][0-9]*|[A-Z_]+");
    }

    @Override
    public Void visitNewArray(NewArrayTree tree, String method) {
        Check.dueThat(tree + " is made by a constructor, or is a constant", method.equals("<init>") || method.isEmpty());
        for (ExpressionTree length : tree.getDimensions()) {
            boolean product = length.getKind() == Tree.Kind.MULTIPLY
                && isConstant(((BinaryTree) length).getLeftOperand()) && isConstant(((BinaryTree) length).getRightOperand());
            Check.dueThat("the length of " + tree + " is a constant", product || isConstant(length));
        }
        return super.visitNewArray(tree, method);
    }

    @Override
    public Void visitNewClass(NewClassTree tree, String method) {
        Check.dueThat(tree + " is made by a constructor", method.equals("<init>"));
        return super.visitNewClass(tree, method);
    }

    @Override
    public Void visitAssignment(AssignmentTree tree, String method) {
        dueNoConstant(tree.getVariable());
        return super.visitAssignment(tree, method);
    }

    @Override
    public Void visitCompoundAssignment(CompoundAssignmentTree tree, String method) {
        dueNoConstant(tree.getVariable());
        return super.visitCompoundAssignment(tree, method);
    }

    @Override
    public Void visitUnary(UnaryTree tree, String method) {
        dueNoConstant(tree.getKind().toString().matches(".*(INCREMENT|DECREMENT)") ? tree.getExpression() : null);
        return super.visitUnary(tree, method);
    }

    /** The rows of numbers that are constants are final, but their elements would not be. */
    private static void dueNoConstant(ExpressionTree changed) {
        if (changed instanceof ArrayAccessTree) {
            Tree row = ((ArrayAccessTree) changed).getExpression();
            Check.dueThat(row + " is no constant", !row.toString().matches("[A-Z_]+"));
        }
    }

    @Override
    public Void visitMethodInvocation(MethodInvocationTree tree, String method) {
        Tree select = tree.getMethodSelect();
        if (select instanceof IdentifierTree) {
            note(method, ((IdentifierTree) select).getName().toString());
        } else if (!LIBRARY.contains(select.toString())) {
            note(method, ((MemberSelectTree) select).getIdentifier().toString());
        }
        return super.visitMethodInvocation(tree, method);
    }

    private void note(String caller, String callee) {
        callees.computeIfAbsent(caller, key -> new TreeSet<>()).add(callee);
    }

    private void depths() {
        for (String method : callees.keySet()) {
            int depth = depth(method, List.of());
            for (String callee : callees.get(method)) {
                Check.dueThat(callee + " is of the program, or of the library that it may use", declared.contains(callee));
            }
            Check.dueThat(method + " goes at most eight calls deep: " + depth, depth <= 8);
        }
    }

    /** How many calls stand open at most; those of the name copyFrom are of unlike classes. */
    private int depth(String method, List<String> open) {
        if (open.contains(method)) {
            Check.dueThat(method + " does not call itself", method.equals("copyFrom"));
            return 1;
        }
        List<String> longer = new java.util.ArrayList<>(open);
        longer.add(method);
        int deepest = 0;
        for (String callee : callees.getOrDefault(method, Set.of())) {
            deepest = Math.max(deepest, depth(callee, longer));
        }
        return deepest + 1;
    }
}
