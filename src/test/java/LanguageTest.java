import com.sun.source.tree.ClassTree;
import com.sun.source.tree.CompilationUnitTree;
import com.sun.source.tree.IdentifierTree;
import com.sun.source.tree.LineMap;
import com.sun.source.tree.MemberSelectTree;
import com.sun.source.tree.MethodInvocationTree;
import com.sun.source.tree.MethodTree;
import com.sun.source.tree.Tree;
import com.sun.source.tree.VariableTree;
import com.sun.source.util.JavacTask;
import com.sun.source.util.SourcePositions;
import com.sun.source.util.TreeScanner;
import com.sun.source.util.Trees;
import java.nio.file.Path;
import java.util.HashMap;
import java.util.List;
import java.util.Map;
import java.util.Set;
import java.util.TreeSet;
import javax.lang.model.element.Modifier;
import javax.tools.JavaCompiler;
import javax.tools.StandardJavaFileManager;
import javax.tools.ToolProvider;

/** The rules of ../shared/LANGUAGE.md that can be seen from the form of the program. */
public final class LanguageTest extends TreeScanner<Void, String> {
    private static final Set<Tree.Kind> RULED_OUT = Set.of(
        Tree.Kind.THROW, Tree.Kind.TRY, Tree.Kind.CATCH, Tree.Kind.SYNCHRONIZED, Tree.Kind.ASSERT,
        Tree.Kind.LAMBDA_EXPRESSION, Tree.Kind.MEMBER_REFERENCE, Tree.Kind.SWITCH_EXPRESSION,
        Tree.Kind.BINDING_PATTERN, Tree.Kind.IMPORT, Tree.Kind.PACKAGE, Tree.Kind.ANNOTATION);
    private static final Set<String> LIBRARY = Set.of("System.arraycopy", "Math.min", "Math.max", "Integer.bitCount");

    private final CompilationUnitTree unit;
    private final SourcePositions positions;
    private final Map<String, Set<String>> callees = new HashMap<>();
    private final Set<String> declared = new TreeSet<>();
    private int classes = 0;

    private LanguageTest(CompilationUnitTree unit, SourcePositions positions) {
        this.unit = unit;
        this.positions = positions;
    }

    public static void main(String[] args) throws java.io.IOException {
        JavaCompiler compiler = ToolProvider.getSystemJavaCompiler();
        try (StandardJavaFileManager files = compiler.getStandardFileManager(null, null, null)) {
            JavacTask task = (JavacTask) compiler.getTask(null, files, null, null, null,
                files.getJavaFileObjects(Path.of("src/main/java/WireDigs.java")));
            CompilationUnitTree unit = task.parse().iterator().next();
            LanguageTest test = new LanguageTest(unit, Trees.instance(task).getSourcePositions());
            test.scan(unit, "");
            Check.dueThat("at most twelve classes: " + test.classes, test.classes <= 12);
            test.depths();
        }
        Check.finish();
    }

    @Override
    public Void scan(Tree tree, String method) {
        if (tree != null) {
            Check.dueThat("line " + lineOf(positions.getStartPosition(unit, tree)) + " without " + tree.getKind(),
                !RULED_OUT.contains(tree.getKind()));
        }
        return super.scan(tree, method);
    }

    private long lineOf(long position) {
        LineMap lines = unit.getLineMap();
        return lines.getLineNumber(Math.max(0, position));
    }

    @Override
    public Void visitClass(ClassTree tree, String method) {
        classes++;
        int fields = 0;
        boolean outer = tree.getSimpleName().contentEquals("WireDigs");
        Check.dueThat("class " + tree.getSimpleName() + " inside is static",
            outer || tree.getModifiers().getFlags().contains(Modifier.STATIC));
        Check.dueThat("no class inside a method", method.isEmpty());
        for (Tree member : tree.getMembers()) {
            if (member instanceof VariableTree) {
                Set<Modifier> flags = ((VariableTree) member).getModifiers().getFlags();
                boolean isStatic = flags.contains(Modifier.STATIC);
                Check.dueThat("a static field is final: " + member, !isStatic || flags.contains(Modifier.FINAL));
                fields += isStatic ? 0 : 1;
            }
            Check.dueThat("no initialiser block", member.getKind() != Tree.Kind.BLOCK);
        }
        Check.dueThat("at most twenty fields in " + tree.getSimpleName(), fields <= 20);
        return super.visitClass(tree, method);
    }

    @Override
    public Void visitMethod(MethodTree tree, String method) {
        long begin = lineOf(positions.getStartPosition(unit, tree));
        long lines = lineOf(positions.getEndPosition(unit, tree)) - begin + 1;
        Check.dueThat(tree.getName() + " is short: " + lines, lines <= 60);
        declared.add(tree.getName().toString());
        Check.dueThat(tree.getName() + " takes at most seven", tree.getParameters().size() <= 7);
        return super.visitMethod(tree, tree.getName().toString());
    }

    @Override
    public Void visitMethodInvocation(MethodInvocationTree tree, String method) {
        Tree select = tree.getMethodSelect();
        if (select instanceof IdentifierTree) {
            note(method, ((IdentifierTree) select).getName().toString());
        } else if (!LIBRARY.contains(select.toString())) {
            note(method, ((MemberSelectTree) select).getIdentifier().toString());
        }
        return super.visitMethodInvocation(tree, method);
    }

    private void note(String caller, String callee) {
        callees.computeIfAbsent(caller, key -> new TreeSet<>()).add(callee);
    }

    private void depths() {
        for (String method : callees.keySet()) {
            int depth = depth(method, List.of());
            for (String callee : callees.get(method)) {
                Check.dueThat(callee + " is of the program, or of the library that it may use", declared.contains(callee));
            }
            Check.dueThat(method + " goes at most eight calls deep: " + depth, depth <= 8);
        }
    }

    /** How many calls stand open at most; those of the name copyFrom are of unlike classes. */
    private int depth(String method, List<String> open) {
        if (open.contains(method)) {
            Check.dueThat(method + " does not call itself", method.equals("copyFrom"));
            return 1;
        }
        List<String> longer = new java.util.ArrayList<>(open);
        longer.add(method);
        int deepest = 0;
        for (String callee : callees.getOrDefault(method, Set.of())) {
            deepest = Math.max(deepest, depth(callee, longer));
        }
        return deepest + 1;
    }
}
