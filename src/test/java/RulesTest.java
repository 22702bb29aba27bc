import com.sun.source.tree.ArrayAccessTree;
import com.sun.source.tree.AssertTree;
import com.sun.source.tree.AssignmentTree;
import com.sun.source.tree.BinaryTree;
import com.sun.source.tree.ClassTree;
import com.sun.source.tree.CompilationUnitTree;
import com.sun.source.tree.DoWhileLoopTree;
import com.sun.source.tree.EnhancedForLoopTree;
import com.sun.source.tree.ExpressionTree;
import com.sun.source.tree.ForLoopTree;
import com.sun.source.tree.IdentifierTree;
import com.sun.source.tree.LambdaExpressionTree;
import com.sun.source.tree.LiteralTree;
import com.sun.source.tree.MemberReferenceTree;
import com.sun.source.tree.MethodInvocationTree;
import com.sun.source.tree.MethodTree;
import com.sun.source.tree.NewArrayTree;
import com.sun.source.tree.NewClassTree;
import com.sun.source.tree.ParenthesizedTree;
import com.sun.source.tree.SynchronizedTree;
import com.sun.source.tree.ThrowTree;
import com.sun.source.tree.Tree;
import com.sun.source.tree.TryTree;
import com.sun.source.tree.TypeCastTree;
import com.sun.source.tree.VariableTree;
import com.sun.source.tree.WhileLoopTree;
import com.sun.source.util.JavacTask;
import com.sun.source.util.TreePathScanner;
import com.sun.source.util.Trees;
import java.nio.file.Path;
import java.util.HashMap;
import java.util.HashSet;
import java.util.List;
import java.util.Map;
import java.util.Set;
import java.util.TreeSet;
import javax.lang.model.element.Element;
import javax.lang.model.element.ElementKind;
import javax.lang.model.element.Modifier;
import javax.lang.model.type.ArrayType;
import javax.lang.model.type.TypeKind;
import javax.lang.model.type.TypeMirror;
import javax.tools.JavaCompiler;
import javax.tools.StandardJavaFileManager;
import javax.tools.ToolProvider;

/** The rules of LANGUAGE.md as far as the compiler's tree of the program shows them. */
public final class RulesTest extends TreePathScanner<Void, Void> {
    private static final String SOURCE = "src/main/java/FilmBench.java";
    // What the program uses; rule 4 leaves more.
    private static final Set<String> LIBRARY = Set.of(
        "java.lang.Math.abs", "java.lang.Math.max", "java.lang.Math.min", "java.lang.System.arraycopy");
    private static final int MOST_LINES = 60;
    private static final int MOST_DEEP = 8;

    private final Due due = new Due();
    private final Trees trees;
    private final CompilationUnitTree unit;
    // Who calls whom, the library's functions left out, since they call nothing of the program.
    private final Map<String, Set<String>> calls = new HashMap<>();
    private final Set<String> seenLibrary = new TreeSet<>();
    private MethodTree method = null;
    private int loops = 0;
    private int classes = 0;

    private RulesTest(Trees trees, CompilationUnitTree unit) {
        this.trees = trees;
        this.unit = unit;
    }

    public static void main(String[] args) throws Exception {
        JavaCompiler compiler = ToolProvider.getSystemJavaCompiler();
        StandardJavaFileManager files = compiler.getStandardFileManager(null, null, null);
        List<String> options = List.of("--release", "17", "-proc:none");
        JavacTask task = (JavacTask) compiler.getTask(null, files, null, options, null, files.getJavaFileObjects(Path.of(SOURCE)));
        CompilationUnitTree unit = task.parse().iterator().next();
        task.analyze();
        RulesTest test = new RulesTest(Trees.instance(task), unit);
        test.scan(unit, null);
        test.wholeFile();
        test.due.end();
    }

    private void wholeFile() {
        rule(1, "one class in the file, without package or import",
                unit.getTypeDecls().size() == 1 && unit.getPackage() == null && unit.getImports().isEmpty());
        rule(11, "some twelve classes: " + classes, classes <= 12);
        rule(4, "the library is used as far as it may be: " + seenLibrary, LIBRARY.containsAll(seenLibrary));
        due.isTrue("the calls of the program are seen", calls.size() > 23);
        for (String name : calls.keySet()) {
            int deep = depthOf(name, new HashSet<>());
            rule(11, name + " is no recursion and goes eight deep at most: " + deep, deep <= MOST_DEEP);
        }
    }

    /** How many calls stand open at once; more than any bound if one comes again. */
    private int depthOf(String name, Set<String> open) {
        if (!open.add(name)) {
            return 1000;
        }
        int deepest = 0;
        for (String called : calls.getOrDefault(name, Set.of())) {
            deepest = Math.max(deepest, depthOf(called, open));
        }
        open.remove(name);
        return deepest + 1;
    }

    private void rule(int number, String what, boolean holds) {
        due.of("LANGUAGE.md rule " + number);
        due.isTrue(what, holds);
    }

    private void never(int number, Tree tree) {
        rule(number, "line " + lineOf(tree) + " is none that may be: " + tree, false);
    }

    private long lineOf(Tree tree) {
        return unit.getLineMap().getLineNumber(trees.getSourcePositions().getStartPosition(unit, tree));
    }

    private long lastLineOf(Tree tree) {
        return unit.getLineMap().getLineNumber(trees.getSourcePositions().getEndPosition(unit, tree));
    }

    private Element elementOf(Tree tree) {
        return trees.getElement(trees.getPath(unit, tree));
    }

    private static String nameOf(Element element) {
        return element.getEnclosingElement() + "." + element.getSimpleName();
    }

    private boolean isOwn(Element element) {
        return element.getEnclosingElement().toString().startsWith("FilmBench");
    }

    private boolean isMaker() {
        return method != null && method.getReturnType() == null;
    }

    @Override
    public Void visitClass(ClassTree tree, Void none) {
        classes++;
        Set<Modifier> marks = tree.getModifiers().getFlags();
        boolean isFace = tree.getSimpleName().contentEquals("FilmBench");
        rule(2, tree.getSimpleName() + " is a class inside that is static, and stands in no method",
                method == null && tree.getSimpleName().length() > 0 && (isFace || marks.contains(Modifier.STATIC)));
        rule(1, tree.getSimpleName() + " is final", marks.contains(Modifier.FINAL));
        int fields = 0;
        for (Tree member : tree.getMembers()) {
            rule(5, "no initialiser block at line " + lineOf(member), member.getKind() != Tree.Kind.BLOCK);
            if (member instanceof VariableTree field && !field.getModifiers().getFlags().contains(Modifier.STATIC)) {
                fields++;
            }
        }
        rule(11, tree.getSimpleName() + " has some twenty fields: " + fields, fields <= 20);
        return super.visitClass(tree, none);
    }

    @Override
    public Void visitMethod(MethodTree tree, Void none) {
        method = tree;
        calls.putIfAbsent(nameOf(elementOf(tree)), new HashSet<>());
        long lines = lastLineOf(tree) - lineOf(tree) + 1;
        rule(11, tree.getName() + " has some sixty lines: " + lines, lines <= MOST_LINES);
        rule(11, tree.getName() + " takes seven parameters at most", tree.getParameters().size() <= 7);
        rule(6, tree.getName() + " is no equals, hashCode or toString",
                !Set.of("equals", "hashCode", "toString").contains(tree.getName().toString()));
        super.visitMethod(tree, none);
        method = null;
        return null;
    }

    @Override
    public Void visitVariable(VariableTree tree, Void none) {
        Element variable = elementOf(tree);
        rule(3, "line " + lineOf(tree) + ": " + tree, mayBe(variable.asType()));
        if (variable.getKind() == ElementKind.FIELD && variable.getModifiers().contains(Modifier.STATIC)) {
            rule(5, tree.getName() + " is final", variable.getModifiers().contains(Modifier.FINAL));
            boolean isArray = variable.asType().getKind() == TypeKind.ARRAY;
            rule(5, tree.getName() + " is written out", isArray ? isWrittenOut(tree.getInitializer())
                    : variable.asType().getKind() == TypeKind.INT);
        }
        return super.visitVariable(tree, none);
    }

    private static boolean mayBe(TypeMirror type) {
        if (type.getKind() == TypeKind.ARRAY) {
            return ((ArrayType) type).getComponentType().getKind().isPrimitive();
        }
        return type.getKind().isPrimitive() || type.toString().startsWith("FilmBench.");
    }

    private static boolean isWrittenOut(ExpressionTree value) {
        if (!(value instanceof NewArrayTree row) || row.getInitializers() == null) {
            return false;
        }
        return row.getInitializers().stream().allMatch(part -> part instanceof LiteralTree);
    }

    @Override
    public Void visitMethodInvocation(MethodInvocationTree tree, Void none) {
        Element called = elementOf(tree.getMethodSelect());
        if (called.getKind() == ElementKind.CONSTRUCTOR) {
            return super.visitMethodInvocation(tree, none);
        }
        if (isOwn(called)) {
            rule(12, "a constructor calls no method: line " + lineOf(tree), !isMaker());
            noteCall(nameOf(called));
        } else {
            seenLibrary.add(nameOf(called));
        }
        return super.visitMethodInvocation(tree, none);
    }

    private void noteCall(String called) {
        calls.computeIfAbsent(nameOf(elementOf(method)), name -> new HashSet<>()).add(called);
    }

    @Override
    public Void visitNewClass(NewClassTree tree, Void none) {
        rule(2, "no anonymous class: line " + lineOf(tree), tree.getClassBody() == null);
        rule(12, "objects are made in constructors, in no loop: line " + lineOf(tree), isMaker() && loops == 0);
        Element made = elementOf(tree);
        rule(4, "line " + lineOf(tree) + " makes an object of the program", made != null && isOwn(made));
        noteCall(nameOf(made));
        return super.visitNewClass(tree, none);
    }

    @Override
    public Void visitNewArray(NewArrayTree tree, Void none) {
        boolean isConstant = method == null && tree.getInitializers() != null;
        rule(12, "rows are made in constructors, in no loop: line " + lineOf(tree), isConstant || isMaker() && loops == 0);
        return super.visitNewArray(tree, none);
    }

    @Override
    public Void visitIdentifier(IdentifierTree tree, Void none) {
        boolean isThis = tree.getName().contentEquals("this");
        boolean isHandedOut = getCurrentPath().getParentPath().getLeaf().getKind() != Tree.Kind.MEMBER_SELECT;
        rule(12, "the object itself is not handed out: line " + lineOf(tree), !isThis || !isHandedOut);
        return super.visitIdentifier(tree, none);
    }

    @Override
    public Void visitAssignment(AssignmentTree tree, Void none) {
        if (tree.getVariable() instanceof ArrayAccessTree access
                && elementOf(access.getExpression()) != null) {
            rule(5, "no constant row is changed: line " + lineOf(tree),
                    !elementOf(access.getExpression()).getModifiers().contains(Modifier.STATIC));
        }
        return super.visitAssignment(tree, none);
    }

    @Override
    public Void visitTypeCast(TypeCastTree tree, Void none) {
        rule(6, "casts are of numbers: line " + lineOf(tree), tree.getType().getKind() == Tree.Kind.PRIMITIVE_TYPE);
        return super.visitTypeCast(tree, none);
    }

    /** A divisor that is no constant is a name, which the lines ahead of it have looked at. */
    @Override
    public Void visitBinary(BinaryTree tree, Void none) {
        if (tree.getKind() == Tree.Kind.DIVIDE || tree.getKind() == Tree.Kind.REMAINDER) {
            Tree.Kind divisor = tree.getRightOperand().getKind();
            rule(7, "a plain divisor: line " + lineOf(tree),
                    divisor == Tree.Kind.INT_LITERAL || divisor == Tree.Kind.IDENTIFIER);
        }
        TypeMirror type = trees.getTypeMirror(getCurrentPath());
        rule(10, "no text is joined by +: line " + lineOf(tree), type != null && type.getKind().isPrimitive());
        return super.visitBinary(tree, none);
    }

    @Override
    public Void visitForLoop(ForLoopTree tree, Void none) {
        rule(9, "an end can be seen: line " + lineOf(tree),
                hasBound(tree.getCondition()) && tree.getUpdate().size() == 1);
        loops++;
        super.visitForLoop(tree, none);
        loops--;
        return null;
    }

    @Override
    public Void visitWhileLoop(WhileLoopTree tree, Void none) {
        rule(9, "an end can be seen: line " + lineOf(tree), hasBound(tree.getCondition()));
        loops++;
        super.visitWhileLoop(tree, none);
        loops--;
        return null;
    }

    /** A comparison of a counter, or several of which the first is one. */
    private static boolean hasBound(ExpressionTree condition) {
        ExpressionTree first = condition;
        while (first instanceof ParenthesizedTree inner) {
            first = inner.getExpression();
        }
        if (first instanceof BinaryTree both && both.getKind() == Tree.Kind.CONDITIONAL_AND) {
            return hasBound(both.getLeftOperand());
        }
        return first instanceof BinaryTree && Set.of(Tree.Kind.LESS_THAN, Tree.Kind.LESS_THAN_EQUAL,
                Tree.Kind.GREATER_THAN, Tree.Kind.GREATER_THAN_EQUAL).contains(first.getKind());
    }

    @Override
    public Void visitDoWhileLoop(DoWhileLoopTree tree, Void none) {
        rule(9, "an end can be seen: line " + lineOf(tree), hasBound(tree.getCondition()));
        return super.visitDoWhileLoop(tree, none);
    }

    @Override
    public Void visitEnhancedForLoop(EnhancedForLoopTree tree, Void none) {
        loops++;
        super.visitEnhancedForLoop(tree, none);
        loops--;
        return null;
    }

    @Override
    public Void visitLambdaExpression(LambdaExpressionTree tree, Void none) {
        never(2, tree);
        return super.visitLambdaExpression(tree, none);
    }

    @Override
    public Void visitMemberReference(MemberReferenceTree tree, Void none) {
        never(2, tree);
        return super.visitMemberReference(tree, none);
    }

    @Override
    public Void visitThrow(ThrowTree tree, Void none) {
        never(6, tree);
        return super.visitThrow(tree, none);
    }

    @Override
    public Void visitTry(TryTree tree, Void none) {
        never(6, tree);
        return super.visitTry(tree, none);
    }

    @Override
    public Void visitSynchronized(SynchronizedTree tree, Void none) {
        never(6, tree);
        return super.visitSynchronized(tree, none);
    }

    @Override
    public Void visitAssert(AssertTree tree, Void none) {
        never(6, tree);
        return super.visitAssert(tree, none);
    }
}
