import com.sun.source.tree.ArrayTypeTree;
import com.sun.source.tree.BinaryTree;
import com.sun.source.tree.BlockTree;
import com.sun.source.tree.ClassTree;
import com.sun.source.tree.CompilationUnitTree;
import com.sun.source.tree.CompoundAssignmentTree;
import com.sun.source.tree.EnhancedForLoopTree;
import com.sun.source.tree.ExpressionTree;
import com.sun.source.tree.ForLoopTree;
import com.sun.source.tree.IdentifierTree;
import com.sun.source.tree.LiteralTree;
import com.sun.source.tree.MemberSelectTree;
import com.sun.source.tree.MethodInvocationTree;
import com.sun.source.tree.MethodTree;
import com.sun.source.tree.NewArrayTree;
import com.sun.source.tree.NewClassTree;
import com.sun.source.tree.Tree;
import com.sun.source.tree.Tree.Kind;
import com.sun.source.tree.VariableTree;
import com.sun.source.util.JavacTask;
import com.sun.source.util.SourcePositions;
import com.sun.source.util.TreeScanner;
import com.sun.source.util.Trees;
import java.io.File;
import java.io.IOException;
import java.util.EnumSet;
import java.util.HashMap;
import java.util.HashSet;
import java.util.List;
import java.util.Map;
import java.util.Set;
import java.util.TreeSet;
import javax.lang.model.element.Modifier;
import javax.tools.JavaCompiler;
import javax.tools.StandardJavaFileManager;
import javax.tools.ToolProvider;

/**
 * What can be seen of the rules of ../shared/LANGUAGE.md in the class's own text. Where the class needs
 * less than a rule leaves, the test holds it to the less: no import, no exception, no text, no while, and
 * no object made outside a constructor. Rule 1's public face is held by FaceTest.
 */
public final class LanguageTest extends TreeScanner<Void, Void> {
    private static final String PROGRAM = "src/main/java/SlotCluster.java";
    private static final int MOST_PARAMETERS = 7;
    private static final int MOST_LINES_OF_A_METHOD = 60;
    private static final int MOST_CALLS_DEEP = 8;
    private static final int MOST_CLASSES = 12;
    private static final int MOST_FIELDS = 20;
    private static final Set<String> SIMPLE_TYPES =
        Set.of("int", "long", "short", "byte", "char", "boolean", "double", "float", "String", "StringBuilder");
    private static final Set<String> LIBRARY = Set.of("Math", "Integer", "Long", "System", "Arrays");
    private static final Set<String> LIBRARY_FUNCTIONS = Set.of("compare", "max", "min", "abs", "bitCount", "floorDiv",
        "floorMod", "arraycopy", "copyOf", "copyOfRange", "fill");
    private static final Set<Kind> OUTSIDE = EnumSet.of(Kind.LAMBDA_EXPRESSION, Kind.MEMBER_REFERENCE, Kind.THROW,
        Kind.TRY, Kind.ASSERT, Kind.SYNCHRONIZED, Kind.WHILE_LOOP, Kind.DO_WHILE_LOOP, Kind.STRING_LITERAL,
        Kind.TYPE_CAST, Kind.ANNOTATION);
    private static final Set<Kind> DIVISIONS =
        EnumSet.of(Kind.DIVIDE, Kind.REMAINDER, Kind.DIVIDE_ASSIGNMENT, Kind.REMAINDER_ASSIGNMENT);

    private final Checks checks = new Checks();
    private final Set<String> classes = new TreeSet<>();
    private final Map<String, Set<String>> callsOf = new HashMap<>();
    private CompilationUnitTree file;
    private SourcePositions positions;
    private MethodTree method;

    public static void main(String[] args) throws IOException {
        LanguageTest test = new LanguageTest();
        test.read();
        test.theFileIsOnePublicClass();
        test.scan(test.file, null);
        test.thereAreFewClasses();
        test.callsAreShallowAndNoneCallsItself();
        test.checks.end();
    }

    private void read() throws IOException {
        JavaCompiler compiler = ToolProvider.getSystemJavaCompiler();
        StandardJavaFileManager files = compiler.getStandardFileManager(null, null, null);
        JavacTask task = (JavacTask) compiler.getTask(null, files, null, List.of("-proc:none"), null,
            files.getJavaFileObjects(new File(PROGRAM)));
        file = task.parse().iterator().next();
        positions = Trees.instance(task).getSourcePositions();
        new TreeScanner<Void, Void>() {
            @Override
            public Void visitClass(ClassTree tree, Void none) {
                classes.add(tree.getSimpleName().toString());
                return super.visitClass(tree, none);
            }
        }.scan(file, null);
    }

    private void allowed(int rule, String what, Tree where, boolean holds) {
        checks.due("rule " + rule + ", line " + line(where) + ": " + what, holds, true);
    }

    private long line(Tree tree) {
        return file.getLineMap().getLineNumber(positions.getStartPosition(file, tree));
    }

    private long lastLine(Tree tree) {
        return file.getLineMap().getLineNumber(positions.getEndPosition(file, tree));
    }

    private void theFileIsOnePublicClass() {
        checks.due("a package line", file.getPackage() != null, false);
        checks.due("rule 4: imports", file.getImports().size(), 0);
        checks.due("classes beside one another in the file", file.getTypeDecls().size(), 1);
    }

    private void thereAreFewClasses() {
        checks.due("rule 11: more than " + MOST_CLASSES + " classes", classes.size() > MOST_CLASSES, false);
    }

    @Override
    public Void scan(Tree tree, Void none) {
        if (tree != null) {
            checks.due("line " + line(tree) + ": the class does without " + tree.getKind(),
                OUTSIDE.contains(tree.getKind()), false);
        }
        return super.scan(tree, none);
    }

    @Override
    public Void visitClass(ClassTree tree, Void none) {
        boolean inside = !file.getTypeDecls().contains(tree);
        Set<Modifier> flags = tree.getModifiers().getFlags();
        if (inside) {
            allowed(1, "a class inside is static", tree, flags.contains(Modifier.STATIC));
            allowed(1, "a class inside is private or package-visible", tree,
                !flags.contains(Modifier.PUBLIC) && !flags.contains(Modifier.PROTECTED));
        }
        allowed(2, "no class inside a method", tree, method == null);
        int fields = 0;
        for (Tree member : tree.getMembers()) {
            if (member instanceof VariableTree) {
                fields += isStatic((VariableTree) member) ? 0 : 1;
                if (isStatic((VariableTree) member)) {
                    constant((VariableTree) member);
                }
            }
            allowed(5, "no initialiser block", member, !(member instanceof BlockTree));
        }
        allowed(11, "at most " + MOST_FIELDS + " fields", tree, fields <= MOST_FIELDS);
        return super.visitClass(tree, none);
    }

    private static boolean isStatic(VariableTree field) {
        return field.getModifiers().getFlags().contains(Modifier.STATIC);
    }

    private void constant(VariableTree field) {
        allowed(5, "a static field is final", field, field.getModifiers().getFlags().contains(Modifier.FINAL));
        allowed(5, "a static field is a number or a text", field,
            Set.of("int", "long", "boolean", "char", "String").contains(field.getType().toString()));
    }

    @Override
    public Void visitMethod(MethodTree tree, Void none) {
        method = tree;
        allowed(11, "at most " + MOST_PARAMETERS + " parameters", tree, tree.getParameters().size() <= MOST_PARAMETERS);
        allowed(11, "at most " + MOST_LINES_OF_A_METHOD + " lines", tree,
            lastLine(tree) - line(tree) < MOST_LINES_OF_A_METHOD);
        allowed(6, "no throws", tree, tree.getThrows().isEmpty());
        allowed(6, "no equals, hashCode or toString", tree,
            !Set.of("equals", "hashCode", "toString").contains(tree.getName().toString()));
        if (tree.getReturnType() != null && !tree.getReturnType().toString().equals("void")) {
            type(tree.getReturnType());
        }
        Set<String> before = callsOf.putIfAbsent(tree.getName().toString(), new HashSet<>());
        allowed(11, "two methods of one name would hide how deep calls go", tree,
            before == null || isConstructor(tree));
        super.visitMethod(tree, none);
        method = null;
        return null;
    }

    private static boolean isConstructor(MethodTree tree) {
        return tree.getName().contentEquals("<init>");
    }

    @Override
    public Void visitVariable(VariableTree tree, Void none) {
        type(tree.getType());
        return super.visitVariable(tree, none);
    }

    private void type(Tree tree) {
        boolean isArray = tree instanceof ArrayTypeTree;
        String name = isArray ? ((ArrayTypeTree) tree).getType().toString() : tree.toString();
        allowed(3, "type " + tree, tree, SIMPLE_TYPES.contains(name) || classes.contains(name));
    }

    @Override
    public Void visitIdentifier(IdentifierTree tree, Void none) {
        String name = tree.getName().toString();
        boolean namesAClass = Character.isUpperCase(name.charAt(0)) && !name.equals(name.toUpperCase());
        allowed(4, "library class " + name, tree,
            !namesAClass || classes.contains(name) || LIBRARY.contains(name) || SIMPLE_TYPES.contains(name));
        return super.visitIdentifier(tree, none);
    }

    @Override
    public Void visitMethodInvocation(MethodInvocationTree tree, Void none) {
        ExpressionTree called = tree.getMethodSelect();
        if (called instanceof MemberSelectTree) {
            MemberSelectTree member = (MemberSelectTree) called;
            if (LIBRARY.contains(member.getExpression().toString())) {
                allowed(4, "library function " + member, tree, LIBRARY_FUNCTIONS.contains(member.getIdentifier().toString()));
            } else {
                called(member.getIdentifier().toString());
            }
        } else {
            called(called.toString());
        }
        return super.visitMethodInvocation(tree, none);
    }

    private void called(String name) {
        if (method != null) {
            callsOf.get(method.getName().toString()).add(name);
        }
    }

    @Override
    public Void visitBinary(BinaryTree tree, Void none) {
        if (DIVISIONS.contains(tree.getKind())) {
            divisor(tree.getRightOperand());
        }
        return super.visitBinary(tree, none);
    }

    @Override
    public Void visitCompoundAssignment(CompoundAssignmentTree tree, Void none) {
        if (DIVISIONS.contains(tree.getKind())) {
            divisor(tree.getExpression());
        }
        return super.visitCompoundAssignment(tree, none);
    }

    private void divisor(ExpressionTree tree) {
        boolean isWrittenOut = tree instanceof LiteralTree;
        allowed(7, "a divisor is a number that is seen not to be 0", tree, isWrittenOut && !tree.toString().equals("0"));
    }

    @Override
    public Void visitForLoop(ForLoopTree tree, Void none) {
        allowed(9, "a loop has a bound and a counter", tree, tree.getCondition() != null && !tree.getUpdate().isEmpty());
        return super.visitForLoop(tree, none);
    }

    @Override
    public Void visitEnhancedForLoop(EnhancedForLoopTree tree, Void none) {
        allowed(12, "a loop over an array makes no iterator", tree, tree.getExpression() instanceof IdentifierTree);
        return super.visitEnhancedForLoop(tree, none);
    }

    @Override
    public Void visitNewClass(NewClassTree tree, Void none) {
        madeInConstructor(tree);
        return super.visitNewClass(tree, none);
    }

    @Override
    public Void visitNewArray(NewArrayTree tree, Void none) {
        madeInConstructor(tree);
        return super.visitNewArray(tree, none);
    }

    private void madeInConstructor(Tree tree) {
        allowed(12, "objects are made in constructors alone", tree, method != null && isConstructor(method));
    }

    private void callsAreShallowAndNoneCallsItself() {
        for (String name : new TreeSet<>(callsOf.keySet())) {
            int depth = depthOf(name, 1);
            checks.due("rule 8 and 11: " + name + " goes more than " + MOST_CALLS_DEEP + " deep or calls itself",
                depth > MOST_CALLS_DEEP, false);
        }
    }

    private int depthOf(String name, int above) {
        int deepest = above;
        if (above <= MOST_CALLS_DEEP) {
            for (String inner : callsOf.getOrDefault(name, Set.of())) {
                deepest = Math.max(deepest, depthOf(inner, above + 1));
            }
        }
        return deepest;
    }
}
