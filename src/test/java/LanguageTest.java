import com.sun.source.tree.ClassTree;
import com.sun.source.tree.CompilationUnitTree;
import com.sun.source.tree.DoWhileLoopTree;
import com.sun.source.tree.ExpressionTree;
import com.sun.source.tree.ForLoopTree;
import com.sun.source.tree.IdentifierTree;
import com.sun.source.tree.LiteralTree;
import com.sun.source.tree.MemberSelectTree;
import com.sun.source.tree.MethodInvocationTree;
import com.sun.source.tree.MethodTree;
import com.sun.source.tree.NewArrayTree;
import com.sun.source.tree.NewClassTree;
import com.sun.source.tree.ParenthesizedTree;
import com.sun.source.tree.Tree;
import com.sun.source.tree.VariableTree;
import com.sun.source.tree.WhileLoopTree;
import com.sun.source.util.JavacTask;
import com.sun.source.util.SourcePositions;
import com.sun.source.util.TreeScanner;
import com.sun.source.util.Trees;
import java.io.IOException;
import java.nio.file.Files;
import java.nio.file.Path;
import java.util.EnumSet;
import java.util.HashMap;
import java.util.HashSet;
import java.util.List;
import java.util.Map;
import java.util.Set;
import java.util.TreeSet;
import java.util.stream.Stream;
import javax.lang.model.element.Modifier;
import javax.tools.JavaCompiler;
import javax.tools.StandardJavaFileManager;
import javax.tools.ToolProvider;

/**
 * The program's source, held against ../shared/LANGUAGE.md where a rule can be seen in it. The program
 * needs less than the rules leave, and so this allows less: no library, no text, no exception at all.
 */
public final class LanguageTest extends TreeScanner<Void, Void> {
    private static final Path FOLDER = Path.of("src/main/java");
    private static final Path FILE = FOLDER.resolve("TrustResolver.java");
    private static final Set<Tree.Kind> REFUSED = EnumSet.of(
            Tree.Kind.LAMBDA_EXPRESSION, Tree.Kind.MEMBER_REFERENCE, Tree.Kind.THROW, Tree.Kind.TRY,
            Tree.Kind.SYNCHRONIZED, Tree.Kind.ASSERT, Tree.Kind.IMPORT, Tree.Kind.PACKAGE,
            Tree.Kind.STRING_LITERAL, Tree.Kind.DOUBLE_LITERAL, Tree.Kind.FLOAT_LITERAL,
            Tree.Kind.DIVIDE, Tree.Kind.REMAINDER, Tree.Kind.ANNOTATION, Tree.Kind.MODULE);
    private static final Set<String> TYPES =
            new HashSet<>(List.of("int", "long", "boolean", "int[]", "boolean[]"));

    private final CompilationUnitTree unit;
    private final SourcePositions positions;
    private final Set<String> classes = new TreeSet<>();
    private final Map<String, Set<String>> callsOf = new HashMap<>();
    private MethodTree method = null;

    private LanguageTest(CompilationUnitTree unit, SourcePositions positions) {
        this.unit = unit;
        this.positions = positions;
    }

    public static void main(String[] args) throws IOException {
        onlyFile();
        JavaCompiler compiler = ToolProvider.getSystemJavaCompiler();
        try (StandardJavaFileManager files = compiler.getStandardFileManager(null, null, null)) {
            JavacTask task = (JavacTask) compiler.getTask(null, files, null, null, null, files.getJavaFileObjects(FILE));
            CompilationUnitTree unit = task.parse().iterator().next();
            new LanguageTest(unit, Trees.instance(task).getSourcePositions()).look();
        }
        Due.end();
    }

    /** 'The program is one file'. */
    private static void onlyFile() throws IOException {
        try (Stream<Path> files = Files.walk(Path.of("src/main"))) {
            Due.is("files of the program", files.filter(Files::isRegularFile).count(), 1);
        }
        Due.is("it is " + FILE, Files.isRegularFile(FILE), true);
    }

    private void look() {
        Due.is("classes beside it in the file", unit.getTypeDecls().size(), 1);
        findClasses(unit.getTypeDecls().get(0));
        Due.is("some twelve classes", classes.size() <= 12, true);
        scan(unit, null);
        callsAreOwnAndFlat();
    }

    private void findClasses(Tree tree) {
        ClassTree found = (ClassTree) tree;
        classes.add(found.getSimpleName().toString());
        for (Tree member : found.getMembers()) {
            if (member instanceof ClassTree) {
                findClasses(member);
            }
        }
    }

    @Override
    public Void scan(Tree tree, Void none) {
        if (tree != null && REFUSED.contains(tree.getKind())) {
            wrong(tree, "has " + tree.getKind());
        }
        return super.scan(tree, none);
    }

    private void wrong(Tree where, String what) {
        Due.is("line " + line(positions.getStartPosition(unit, where)) + " " + what, true, false);
    }

    private long line(long position) {
        return unit.getLineMap().getLineNumber(position);
    }

    /** Rules 2, 5 and 11: static classes, no static block, some twenty fields beside the constants. */
    @Override
    public Void visitClass(ClassTree found, Void none) {
        int fields = 0;
        for (Tree member : found.getMembers()) {
            if (member.getKind() == Tree.Kind.BLOCK) {
                wrong(member, "has a block outside a method");
            }
            if (member instanceof VariableTree field && !isStatic(field)) {
                fields++;
            }
        }
        if (fields > 20) {
            wrong(found, "begins a class of " + fields + " fields");
        }
        return super.visitClass(found, none);
    }

    private static boolean isStatic(VariableTree field) {
        return field.getModifiers().getFlags().contains(Modifier.STATIC);
    }

    /** Rules 3 and 5: the types, and static fields that are final numbers. */
    @Override
    public Void visitVariable(VariableTree found, Void none) {
        String type = String.valueOf(found.getType());
        if (!TYPES.contains(type) && !classes.contains(type)) {
            wrong(found, "has the type " + type);
        }
        if (isStatic(found)) {
            boolean constant = found.getModifiers().getFlags().contains(Modifier.FINAL)
                    && (type.equals("int") || type.equals("long"));
            if (!constant) {
                wrong(found, "has static state");
            }
        }
        return super.visitVariable(found, none);
    }

    /** Rule 11: at most seven parameters, some sixty lines. */
    @Override
    public Void visitMethod(MethodTree found, Void none) {
        if (found.getParameters().size() > 7) {
            wrong(found, "has " + found.getParameters().size() + " parameters");
        }
        long lines = line(positions.getEndPosition(unit, found)) - line(positions.getStartPosition(unit, found)) + 1;
        if (lines > 60) {
            wrong(found, "begins a method of " + lines + " lines");
        }
        method = found;
        callsOf.computeIfAbsent(found.getName().toString(), name -> new TreeSet<>());
        super.visitMethod(found, none);
        method = null;
        return null;
    }

    @Override
    public Void visitMethodInvocation(MethodInvocationTree found, Void none) {
        if (method != null) {
            callsOf.get(method.getName().toString()).add(calledName(found.getMethodSelect()));
        }
        return super.visitMethodInvocation(found, none);
    }

    private static String calledName(ExpressionTree select) {
        return select instanceof MemberSelectTree member
                ? member.getIdentifier().toString()
                : ((IdentifierTree) select).getName().toString();
    }

    /** Rule 12 and the README: what an object needs is made with it, and no call makes more. */
    @Override
    public Void visitNewClass(NewClassTree found, Void none) {
        if (!classes.contains(found.getIdentifier().toString())) {
            wrong(found, "makes a " + found.getIdentifier());
        }
        madeWithTheObject(found);
        return super.visitNewClass(found, none);
    }

    @Override
    public Void visitNewArray(NewArrayTree found, Void none) {
        madeWithTheObject(found);
        return super.visitNewArray(found, none);
    }

    private void madeWithTheObject(Tree found) {
        if (method != null && !method.getName().contentEquals("<init>")) {
            wrong(found, "makes an object in " + method.getName());
        }
    }

    /** Rule 9: a loop's end stands in its own lines. */
    @Override
    public Void visitForLoop(ForLoopTree found, Void none) {
        looped(found, found.getCondition());
        return super.visitForLoop(found, none);
    }

    @Override
    public Void visitWhileLoop(WhileLoopTree found, Void none) {
        looped(found, found.getCondition());
        return super.visitWhileLoop(found, none);
    }

    @Override
    public Void visitDoWhileLoop(DoWhileLoopTree found, Void none) {
        looped(found, found.getCondition());
        return super.visitDoWhileLoop(found, none);
    }

    private void looped(Tree loop, ExpressionTree condition) {
        Tree bare = condition instanceof ParenthesizedTree inside ? inside.getExpression() : condition;
        if (bare == null || bare instanceof LiteralTree) {
            wrong(loop, "begins a loop without an end");
        }
    }

    /** Rules 4, 8 and 11: methods of the file alone are called, none calls itself, at most eight deep. */
    private void callsAreOwnAndFlat() {
        for (Map.Entry<String, Set<String>> caller : callsOf.entrySet()) {
            for (String called : caller.getValue()) {
                Due.is(caller.getKey() + " calls its own " + called, callsOf.containsKey(called), true);
            }
            Due.is("calls from " + caller.getKey() + " go at most eight deep", depth(caller.getKey(), 0) <= 8, true);
        }
    }

    /** Methods of one name count as one, which can only make it deeper; beyond the bound it is recursion. */
    private int depth(String name, int open) {
        int deepest = 0;
        if (open < 20) {
            for (String called : callsOf.getOrDefault(name, Set.of())) {
                deepest = Math.max(deepest, depth(called, open + 1));
            }
        }
        return deepest + 1;
    }
}
