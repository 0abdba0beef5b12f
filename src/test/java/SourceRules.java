import com.sun.source.tree.ArrayAccessTree;
import com.sun.source.tree.AssignmentTree;
import com.sun.source.tree.BinaryTree;
import com.sun.source.tree.ClassTree;
import com.sun.source.tree.CompilationUnitTree;
import com.sun.source.tree.CompoundAssignmentTree;
import com.sun.source.tree.EnhancedForLoopTree;
import com.sun.source.tree.ExpressionTree;
import com.sun.source.tree.LiteralTree;
import com.sun.source.tree.MethodInvocationTree;
import com.sun.source.tree.MethodTree;
import com.sun.source.tree.NewArrayTree;
import com.sun.source.tree.NewClassTree;
import com.sun.source.tree.Tree;
import com.sun.source.tree.TypeCastTree;
import com.sun.source.tree.VariableTree;
import com.sun.source.util.JavacTask;
import com.sun.source.util.TreePath;
import com.sun.source.util.TreePathScanner;
import com.sun.source.util.Trees;
import java.io.IOException;
import java.nio.file.Path;
import java.util.ArrayList;
import java.util.List;
import java.util.Map;
import java.util.Set;
import java.util.TreeMap;
import java.util.TreeSet;
import javax.lang.model.element.Element;
import javax.lang.model.element.ElementKind;
import javax.lang.model.element.ExecutableElement;
import javax.lang.model.element.Modifier;
import javax.lang.model.element.VariableElement;
import javax.lang.model.type.TypeKind;
import javax.tools.JavaCompiler;
import javax.tools.StandardJavaFileManager;
import javax.tools.ToolProvider;

/**
 * The rules of LANGUAGE.md that can be read off the compiler's tree of the program. It is
 * narrower than the rules where the program is: it makes objects in constructors alone, calls
 * nothing that calls itself, and touches arrays in two classes.
 */
final class SourceRules extends TreePathScanner<Void, Void> {
    private static final Set<Tree.Kind> FORBIDDEN = Set.of(Tree.Kind.IMPORT, Tree.Kind.LAMBDA_EXPRESSION,
            Tree.Kind.MEMBER_REFERENCE, Tree.Kind.THROW, Tree.Kind.TRY, Tree.Kind.SYNCHRONIZED, Tree.Kind.ASSERT);
    private static final Set<String> LIBRARY = Set.of("java.lang.Math.max", "java.lang.Math.min");
    private static final Set<String> TYPES = Set.of("int", "long", "boolean", "int[]");
    private static final Set<String> WHERE_ARRAYS_ARE_TOUCHED = Set.of("CloningMachine.Row", "CloningMachine.Settings");
    private static final int PARAMETERS_MOST = 7, LINES_MOST = 60, DEPTH_MOST = 8;

    private final Trees trees;
    private final CompilationUnitTree unit;
    private final Map<String, Set<String>> callees = new TreeMap<>();

    private SourceRules(Trees trees, CompilationUnitTree unit) {
        this.trees = trees;
        this.unit = unit;
    }

    static void check(Path source) throws IOException {
        JavaCompiler compiler = ToolProvider.getSystemJavaCompiler();
        try (StandardJavaFileManager files = compiler.getStandardFileManager(null, null, null)) {
            JavacTask task = (JavacTask) compiler.getTask(null, files, null, List.of("-proc:none"), null,
                    files.getJavaFileObjects(source));
            CompilationUnitTree unit = task.parse().iterator().next();
            task.analyze();
            SourceRules rules = new SourceRules(Trees.instance(task), unit);
            rules.scan(unit, null);
            rules.checkDepth();
        }
    }

    private void must(boolean holds, Tree where, String what) {
        long start = trees.getSourcePositions().getStartPosition(unit, where);
        Faults.must(holds, "line " + unit.getLineMap().getLineNumber(start) + ": " + what);
    }

    private Element element(Tree tree) {
        return trees.getElement(new TreePath(getCurrentPath(), tree));
    }

    private Element here() {
        return trees.getElement(getCurrentPath());
    }

    /** The class that the tree stands in, by its name. */
    private String classHere() {
        TreePath path = getCurrentPath();
        while (!(path.getLeaf() instanceof ClassTree)) {
            path = path.getParentPath();
        }
        return trees.getElement(path).toString();
    }

    /** The method that the tree stands in; what stands in a field's initialiser is the constructor's. */
    private String methodHere() {
        for (TreePath path = getCurrentPath(); path != null; path = path.getParentPath()) {
            if (path.getLeaf() instanceof MethodTree) {
                return nameOf((ExecutableElement) trees.getElement(path));
            }
            if (path.getLeaf() instanceof ClassTree) {
                break;
            }
        }
        return classHere() + ".<init>";
    }

    private static String nameOf(ExecutableElement method) {
        return method.getEnclosingElement() + "." + method.getSimpleName();
    }

    private static boolean isOwn(Element owner) {
        return owner != null && (owner.toString().equals("CloningMachine") || owner.toString().startsWith("CloningMachine."));
    }

    private void addCall(ExecutableElement called) {
        callees.computeIfAbsent(methodHere(), k -> new TreeSet<>()).add(nameOf(called));
    }

    @Override
    public Void scan(Tree tree, Void p) {
        if (tree != null) {
            must(!FORBIDDEN.contains(tree.getKind()), tree, "the program does without " + tree.getKind());
        }
        return super.scan(tree, p);
    }

    // ---- rules 1 to 3: classes and types

    @Override
    public Void visitClass(ClassTree tree, Void p) {
        boolean outermost = getCurrentPath().getParentPath().getLeaf() instanceof CompilationUnitTree;
        boolean member = getCurrentPath().getParentPath().getLeaf() instanceof ClassTree;
        must(outermost || member && here().getModifiers().contains(Modifier.STATIC), tree, "a class inside is a static member");
        for (Tree m : tree.getMembers()) {
            must(m.getKind() != Tree.Kind.BLOCK, m, "no initialiser block");
        }
        return super.visitClass(tree, p);
    }

    @Override
    public Void visitVariable(VariableTree tree, Void p) {
        String type = here().asType().toString();
        must(TYPES.contains(type) || isOwnName(type), tree, tree.getName() + " is of a type that the program uses: " + type);
        if (here().getModifiers().contains(Modifier.STATIC)) {
            must(here().getModifiers().contains(Modifier.FINAL), tree, tree.getName() + " is static and so is final");
            must(isConstant(tree), tree, tree.getName() + " is a constant or an array that is written out");
        }
        return super.visitVariable(tree, p);
    }

    private static boolean isOwnName(String type) {
        return type.startsWith("CloningMachine.");
    }

    private boolean isConstant(VariableTree tree) {
        return ((VariableElement) here()).getConstantValue() != null
                || tree.getInitializer() instanceof NewArrayTree && ((NewArrayTree) tree.getInitializer()).getInitializers() != null;
    }

    // ---- rules 4, 8, 11 and 12: calls, depth, and what is made

    @Override
    public Void visitMethodInvocation(MethodInvocationTree tree, Void p) {
        Element called = element(tree.getMethodSelect());
        boolean own = isOwn(called.getEnclosingElement());
        // The compiler puts super() into a constructor that does not say it.
        boolean unsaid = called.getSimpleName().contentEquals("<init>");
        must(own || unsaid || LIBRARY.contains(nameOf((ExecutableElement) called)), tree, called + " is own or of the library that is listed");
        if (own) {
            addCall((ExecutableElement) called);
        }
        return super.visitMethodInvocation(tree, p);
    }

    @Override
    public Void visitNewClass(NewClassTree tree, Void p) {
        Element made = here();
        must(tree.getClassBody() == null, tree, "no anonymous class");
        must(isOwn(made.getEnclosingElement()), tree, "an object of an own class");
        must(methodHere().endsWith(".<init>"), tree, "made with the object, not by a call");
        addCall((ExecutableElement) made);
        return super.visitNewClass(tree, p);
    }

    @Override
    public Void visitNewArray(NewArrayTree tree, Void p) {
        must(methodHere().endsWith(".<init>"), tree, "made with the object, not by a call");
        must(tree.getDimensions().size() <= 1, tree, "one dimension");
        return super.visitNewArray(tree, p);
    }

    @Override
    public Void visitMethod(MethodTree tree, Void p) {
        must(tree.getParameters().size() <= PARAMETERS_MOST, tree, "seven parameters at most");
        must(linesOf(tree) <= LINES_MOST, tree, "some sixty lines at most");
        return super.visitMethod(tree, p);
    }

    private long linesOf(MethodTree tree) {
        long start = trees.getSourcePositions().getStartPosition(unit, tree);
        long end = trees.getSourcePositions().getEndPosition(unit, tree);
        return end < 0 ? 1 : unit.getLineMap().getLineNumber(end) - unit.getLineMap().getLineNumber(start) + 1;
    }

    private void checkDepth() {
        int deepest = 0;
        for (String method : callees.keySet()) {
            deepest = Math.max(deepest, depthOf(method, List.of()));
        }
        Faults.must(deepest > 1, "the calls were found");
        Faults.must(deepest <= DEPTH_MOST, "calls go eight deep at most, but go " + deepest);
    }

    private int depthOf(String method, List<String> open) {
        if (open.contains(method)) {
            Faults.tell(method + " calls itself");
            return 0;
        }
        List<String> now = new ArrayList<>(open);
        now.add(method);
        int below = 0;
        for (String called : callees.getOrDefault(method, Set.of())) {
            below = Math.max(below, depthOf(called, now));
        }
        return below + 1;
    }

    // ---- rules 5 to 7: what is changed, thrown, divided by and looked up

    @Override
    public Void visitAssignment(AssignmentTree tree, Void p) {
        noStaticChange(tree.getVariable());
        return super.visitAssignment(tree, p);
    }

    @Override
    public Void visitCompoundAssignment(CompoundAssignmentTree tree, Void p) {
        noStaticChange(tree.getVariable());
        must(tree.getKind() != Tree.Kind.DIVIDE_ASSIGNMENT && tree.getKind() != Tree.Kind.REMAINDER_ASSIGNMENT, tree,
                "a divisor stands in an expression");
        return super.visitCompoundAssignment(tree, p);
    }

    private void noStaticChange(ExpressionTree changed) {
        ExpressionTree whole = changed instanceof ArrayAccessTree ? ((ArrayAccessTree) changed).getExpression() : changed;
        Element e = element(whole);
        must(e == null || !e.getModifiers().contains(Modifier.STATIC), changed, "nothing static is changed");
    }

    @Override
    public Void visitArrayAccess(ArrayAccessTree tree, Void p) {
        must(WHERE_ARRAYS_ARE_TOUCHED.contains(classHere()), tree, "an index is used where it is looked at");
        return super.visitArrayAccess(tree, p);
    }

    @Override
    public Void visitBinary(BinaryTree tree, Void p) {
        if (tree.getKind() == Tree.Kind.DIVIDE || tree.getKind() == Tree.Kind.REMAINDER) {
            must(isSafeDivisor(tree.getRightOperand()) || methodHere().endsWith(".cutQuotient"), tree,
                    "a divisor is a constant, or cutQuotient looks at it");
        }
        return super.visitBinary(tree, p);
    }

    private boolean isSafeDivisor(ExpressionTree divisor) {
        if (divisor instanceof LiteralTree) {
            return ((Number) ((LiteralTree) divisor).getValue()).longValue() != 0;
        }
        Element e = element(divisor);
        return e != null && e.getKind() == ElementKind.FIELD && ((VariableElement) e).getConstantValue() instanceof Number
                && ((Number) ((VariableElement) e).getConstantValue()).longValue() != 0;
    }

    @Override
    public Void visitTypeCast(TypeCastTree tree, Void p) {
        must(tree.getType().getKind() == Tree.Kind.PRIMITIVE_TYPE, tree, "only numbers are cast");
        return super.visitTypeCast(tree, p);
    }

    @Override
    public Void visitEnhancedForLoop(EnhancedForLoopTree tree, Void p) {
        must(trees.getTypeMirror(new TreePath(getCurrentPath(), tree.getExpression())).getKind()
                == TypeKind.ARRAY, tree, "a for goes over an array");
        return super.visitEnhancedForLoop(tree, p);
    }
}
