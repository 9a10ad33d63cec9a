import com.sun.source.tree.AssertTree;
import com.sun.source.tree.BinaryTree;
import com.sun.source.tree.BlockTree;
import com.sun.source.tree.ClassTree;
import com.sun.source.tree.CompilationUnitTree;
import com.sun.source.tree.CompoundAssignmentTree;
import com.sun.source.tree.DoWhileLoopTree;
import com.sun.source.tree.ForLoopTree;
import com.sun.source.tree.LambdaExpressionTree;
import com.sun.source.tree.LiteralTree;
import com.sun.source.tree.MemberReferenceTree;
import com.sun.source.tree.MethodInvocationTree;
import com.sun.source.tree.MethodTree;
import com.sun.source.tree.NewArrayTree;
import com.sun.source.tree.NewClassTree;
import com.sun.source.tree.SynchronizedTree;
import com.sun.source.tree.ThrowTree;
import com.sun.source.tree.Tree;
import com.sun.source.tree.TryTree;
import com.sun.source.tree.VariableTree;
import com.sun.source.tree.WhileLoopTree;
import com.sun.source.util.JavacTask;
import com.sun.source.util.SourcePositions;
import com.sun.source.util.TreePath;
import com.sun.source.util.TreePathScanner;
import com.sun.source.util.Trees;
import java.io.IOException;
import java.nio.file.Path;
import java.util.HashMap;
import java.util.List;
import java.util.Map;
import java.util.Set;
import java.util.TreeSet;
import javax.lang.model.element.Element;
import javax.lang.model.element.ElementKind;
import javax.lang.model.element.Modifier;
import javax.lang.model.element.TypeElement;
import javax.lang.model.type.ArrayType;
import javax.lang.model.type.TypeMirror;
import javax.tools.JavaCompiler;
import javax.tools.StandardJavaFileManager;
import javax.tools.ToolProvider;

/**
 * The rules of LANGUAGE.md that the compiler's tree of MorningDesk.java shows, each with its number. The class needs
 * less than the rules leave it, so some are asked more strictly here: no recursion, no loop but for, no division.
 */
public final class LanguageTest extends TreePathScanner<Void, Void> {
    private static final Due DUE = new Due();
    private static final Set<String> LIBRARY = Set.of("java.util.Arrays.fill", "java.lang.System.arraycopy",
            "java.lang.Math.max", "java.lang.Math.min", "java.lang.Integer.bitCount", "java.lang.Object.<init>");
    private static final Set<String> CONSTANTS = Set.of("int", "long", "boolean", "char", "java.lang.String", "int[]",
            "long[]", "char[]", "byte[]");
    private static final Set<String> OWN_OBJECTS = Set.of("MorningDesk", "Tape", "RuleBook", "Teacher", "Gap",
            "Visits", "Matching");
    // The ones that a call may make: a teacher and a gap, one each a call.
    private static final Set<String> MADE_BY_CALLS = Set.of("Teacher in teacher", "Gap in gap");

    private final CompilationUnitTree unit;
    private final Trees trees;
    private final Map<String, Set<String>> calls = new HashMap<>();
    private int classes;

    private LanguageTest(CompilationUnitTree unit, Trees trees) {
        this.unit = unit;
        this.trees = trees;
    }

    public static void main(String[] args) throws IOException {
        Path source = Path.of(args.length > 0 ? args[0] : "src/main/java/MorningDesk.java");
        JavaCompiler compiler = ToolProvider.getSystemJavaCompiler();
        try (StandardJavaFileManager files = compiler.getStandardFileManager(null, null, null)) {
            JavacTask task = (JavacTask) compiler.getTask(null, files, null, List.of("--release", "17"), null,
                    files.getJavaFileObjects(source));
            CompilationUnitTree unit = task.parse().iterator().next();
            task.analyze();
            LanguageTest test = new LanguageTest(unit, Trees.instance(task));
            test.scan(unit, null);
            test.atTheEnd();
        }
        DUE.end();
    }

    private void rule(int number, Tree where, String what, boolean holds) {
        long line = unit.getLineMap().getLineNumber(trees.getSourcePositions().getStartPosition(unit, where));
        DUE.is("LANGUAGE.md rule " + number + ", line " + line + ", " + what, holds, true);
    }

    private void never(int number, Tree where) {
        rule(number, where, "no " + where.getKind(), false);
    }

    private void atTheEnd() {
        DUE.is("rule 1: no package", unit.getPackageName() == null, true);
        DUE.is("rule 11: twelve classes at most, here " + classes, classes <= 12, true);
        for (String method : calls.keySet()) {
            DUE.is("rule 8, 11: calls from " + method + " end within eight", depthFrom(method, 0) <= 8, true);
        }
    }

    /** How many calls stand open at once; 9 if more than eight do, as in any recursion. */
    private int depthFrom(String method, int above) {
        int deepest = above + 1;
        for (String called : calls.getOrDefault(method, Set.of())) {
            if (deepest <= 8) {
                deepest = Math.max(deepest, depthFrom(called, above + 1));
            }
        }
        return deepest;
    }

    private TypeMirror typeHere() {
        return trees.getTypeMirror(getCurrentPath());
    }

    private MethodTree methodHere() {
        for (TreePath path = getCurrentPath(); path != null; path = path.getParentPath()) {
            if (path.getLeaf() instanceof MethodTree method) {
                return method;
            }
        }
        return null;
    }

    @Override
    public Void visitClass(ClassTree tree, Void nothing) {
        classes++;
        Element element = trees.getElement(getCurrentPath());
        Element around = element.getEnclosingElement();
        boolean inside = around.getKind() == ElementKind.CLASS;
        rule(2, tree, "a class of its own", !tree.getSimpleName().isEmpty());
        rule(2, tree, "static inside", !inside || element.getModifiers().contains(Modifier.STATIC));
        rule(2, tree, "not within a method", inside || around.getKind() == ElementKind.PACKAGE);
        rule(12, tree, "final, so that no constructor calls what is overridden",
                element.getModifiers().contains(Modifier.FINAL));
        int fields = 0;
        for (Tree member : tree.getMembers()) {
            rule(5, member, "no initialiser block", !(member instanceof BlockTree));
            boolean isField = member instanceof VariableTree;
            fields += isField && !isStatic((VariableTree) member) ? 1 : 0;
        }
        rule(11, tree, "twenty fields at most, here " + fields, fields <= 20);
        return super.visitClass(tree, nothing);
    }

    private static boolean isStatic(VariableTree tree) {
        return tree.getModifiers().getFlags().contains(Modifier.STATIC);
    }

    @Override
    public Void visitMethod(MethodTree tree, Void nothing) {
        String name = tree.getName().toString();
        rule(11, tree, name + ": seven parameters at most", tree.getParameters().size() <= 7);
        SourcePositions places = trees.getSourcePositions();
        long first = unit.getLineMap().getLineNumber(Math.max(0, places.getStartPosition(unit, tree)));
        long last = unit.getLineMap().getLineNumber(Math.max(0, places.getEndPosition(unit, tree)));
        rule(11, tree, name + ": sixty lines at most", last - first < 60);
        rule(6, tree, name, !Set.of("equals", "hashCode", "toString").contains(name));
        rule(6, tree, name + " throws nothing", tree.getThrows().isEmpty());
        return super.visitMethod(tree, nothing);
    }

    @Override
    public Void visitVariable(VariableTree tree, Void nothing) {
        String type = typeHere().toString();
        rule(3, tree, "the type " + type, isAllowed(typeHere()));
        if (isStatic(tree)) {
            rule(5, tree, "final", tree.getModifiers().getFlags().contains(Modifier.FINAL));
            rule(5, tree, "a constant of type " + type, CONSTANTS.contains(type));
        }
        return super.visitVariable(tree, nothing);
    }

    private static boolean isAllowed(TypeMirror type) {
        if (!(type instanceof ArrayType array)) {
            return isAllowedAlone(type);
        }
        TypeMirror part = array.getComponentType();
        boolean twoOfNumbers = part instanceof ArrayType inner && inner.getComponentType().getKind().isPrimitive();
        return twoOfNumbers || isAllowedAlone(part);
    }

    private static boolean isAllowedAlone(TypeMirror type) {
        String name = type.toString();
        return type.getKind().isPrimitive() || OWN_OBJECTS.contains(name.substring(name.lastIndexOf('.') + 1));
    }

    @Override
    public Void visitMethodInvocation(MethodInvocationTree tree, Void nothing) {
        Element called = trees.getElement(new TreePath(getCurrentPath(), tree.getMethodSelect()));
        TypeElement owner = (TypeElement) called.getEnclosingElement();
        String name = owner.getQualifiedName() + "." + called.getSimpleName();
        boolean own = name.startsWith("MorningDesk.");
        rule(4, tree, name, own || LIBRARY.contains(name));
        if (own && methodHere() != null) {
            Element caller = trees.getElement(trees.getPath(unit, methodHere()));
            String from = caller.getEnclosingElement() + "." + caller.getSimpleName();
            calls.computeIfAbsent(from, key -> new TreeSet<>()).add(name);
        }
        return super.visitMethodInvocation(tree, nothing);
    }

    @Override
    public Void visitNewClass(NewClassTree tree, Void nothing) {
        rule(2, tree, "no class without a name", tree.getClassBody() == null);
        MethodTree around = methodHere();
        if (around != null) {
            String made = tree.getIdentifier() + " in " + around.getName();
            rule(12, tree, made, MADE_BY_CALLS.contains(made));
        }
        return super.visitNewClass(tree, nothing);
    }

    @Override
    public Void visitNewArray(NewArrayTree tree, Void nothing) {
        rule(12, tree, "an array is made with its object, not by a call", methodHere() == null);
        return super.visitNewArray(tree, nothing);
    }

    @Override
    public Void visitForLoop(ForLoopTree tree, Void nothing) {
        rule(9, tree, "a loop has a bound", tree.getCondition() != null && tree.getUpdate().size() == 1);
        return super.visitForLoop(tree, nothing);
    }

    @Override
    public Void visitBinary(BinaryTree tree, Void nothing) {
        rule(10, tree, "numbers, not texts", typeHere().getKind().isPrimitive());
        boolean divides = Set.of(Tree.Kind.DIVIDE, Tree.Kind.REMAINDER).contains(tree.getKind());
        rule(7, tree, "no division", !divides);
        return super.visitBinary(tree, nothing);
    }

    @Override
    public Void visitCompoundAssignment(CompoundAssignmentTree tree, Void nothing) {
        Set<Tree.Kind> divisions = Set.of(Tree.Kind.DIVIDE_ASSIGNMENT, Tree.Kind.REMAINDER_ASSIGNMENT);
        rule(7, tree, "no division", !divisions.contains(tree.getKind()));
        return super.visitCompoundAssignment(tree, nothing);
    }

    @Override
    public Void visitLiteral(LiteralTree tree, Void nothing) {
        if (tree.getValue() instanceof String text) {
            rule(4, tree, "signs 1 to 127", text.chars().allMatch(sign -> sign >= 1 && sign <= 127));
        }
        return super.visitLiteral(tree, nothing);
    }

    @Override
    public Void visitLambdaExpression(LambdaExpressionTree tree, Void nothing) {
        never(2, tree);
        return null;
    }

    @Override
    public Void visitMemberReference(MemberReferenceTree tree, Void nothing) {
        never(2, tree);
        return null;
    }

    @Override
    public Void visitThrow(ThrowTree tree, Void nothing) {
        never(6, tree);
        return null;
    }

    @Override
    public Void visitTry(TryTree tree, Void nothing) {
        never(6, tree);
        return null;
    }

    @Override
    public Void visitSynchronized(SynchronizedTree tree, Void nothing) {
        never(6, tree);
        return null;
    }

    @Override
    public Void visitAssert(AssertTree tree, Void nothing) {
        never(6, tree);
        return null;
    }

    @Override
    public Void visitWhileLoop(WhileLoopTree tree, Void nothing) {
        never(9, tree);
        return null;
    }

    @Override
    public Void visitDoWhileLoop(DoWhileLoopTree tree, Void nothing) {
        never(9, tree);
        return null;
    }
}
