import com.sun.source.tree.ArrayTypeTree;
import com.sun.source.tree.AssertTree;
import com.sun.source.tree.BinaryTree;
import com.sun.source.tree.BlockTree;
import com.sun.source.tree.CatchTree;
import com.sun.source.tree.ClassTree;
import com.sun.source.tree.CompilationUnitTree;
import com.sun.source.tree.CompoundAssignmentTree;
import com.sun.source.tree.DoWhileLoopTree;
import com.sun.source.tree.EnhancedForLoopTree;
import com.sun.source.tree.ExpressionTree;
import com.sun.source.tree.ForLoopTree;
import com.sun.source.tree.ImportTree;
import com.sun.source.tree.InstanceOfTree;
import com.sun.source.tree.LambdaExpressionTree;
import com.sun.source.tree.LiteralTree;
import com.sun.source.tree.MemberReferenceTree;
import com.sun.source.tree.MethodInvocationTree;
import com.sun.source.tree.MethodTree;
import com.sun.source.tree.NewArrayTree;
import com.sun.source.tree.NewClassTree;
import com.sun.source.tree.SynchronizedTree;
import com.sun.source.tree.ThrowTree;
import com.sun.source.tree.Tree;
import com.sun.source.tree.TryTree;
import com.sun.source.tree.TypeCastTree;
import com.sun.source.tree.VariableTree;
import com.sun.source.tree.WhileLoopTree;
import com.sun.source.util.JavacTask;
import com.sun.source.util.TreePath;
import com.sun.source.util.TreePathScanner;
import com.sun.source.util.Trees;
import java.io.IOException;
import java.nio.file.Path;
import java.util.ArrayList;
import java.util.HashMap;
import java.util.HashSet;
import java.util.List;
import java.util.Map;
import java.util.Set;
import javax.lang.model.element.Element;
import javax.lang.model.element.ElementKind;
import javax.lang.model.element.Modifier;
import javax.lang.model.element.VariableElement;
import javax.lang.model.type.ArrayType;
import javax.lang.model.type.TypeKind;
import javax.lang.model.type.TypeMirror;
import javax.tools.JavaCompiler;
import javax.tools.StandardJavaFileManager;
import javax.tools.ToolProvider;

/**
 * The rules of LANGUAGE.md by the tree that the compiler makes of the class. It asks for somewhat
 * more than they do where the class can give it: no recursion, no casts but of numbers, and no
 * object or array made outside a constructor.
 */
public final class SourceTest extends TreePathScanner<Void, Void> {
    private static final int MOST_PARAMETERS = 7;
    private static final int MOST_LINES = 60;
    private static final int MOST_DEEP = 8;
    private static final int MOST_CLASSES = 12;
    private static final int MOST_FIELDS = 20;
    private static final Set<String> LIBRARY = Set.of(
            "java.lang.String.length", "java.lang.String.charAt", "java.lang.Math.min", "java.lang.Math.max",
            "java.lang.Math.abs", "java.lang.Integer.compare", "java.lang.Integer.bitCount",
            "java.lang.System.arraycopy");

    private final Trees trees;
    private final CompilationUnitTree unit;
    private final Map<Element, Set<Element>> callsOf = new HashMap<>();
    private final Map<Element, Integer> deepOf = new HashMap<>();
    private final Set<Element> open = new HashSet<>();
    private int classes = 0;
    private int loops = 0;

    private SourceTest(Trees trees, CompilationUnitTree unit) {
        this.trees = trees;
        this.unit = unit;
    }

    public static void main(String[] args) throws IOException {
        JavaCompiler compiler = ToolProvider.getSystemJavaCompiler();
        try (StandardJavaFileManager files = compiler.getStandardFileManager(null, null, null)) {
            JavacTask task = (JavacTask) compiler.getTask(null, files, null, List.of("--release", "17"), null,
                    files.getJavaFileObjects(Path.of("src/main/java/ChairDance.java")));
            CompilationUnitTree unit = task.parse().iterator().next();
            task.analyze();
            new SourceTest(Trees.instance(task), unit).judge();
        }
        Check.end();
    }

    private void judge() {
        holds("rule 0: no package line", unit.getPackage() == null, unit);
        holds("rule 0: one class in the file", unit.getTypeDecls().size() == 1, unit);
        scan(unit, null);
        holds("rule 11: some twelve classes", classes <= MOST_CLASSES, unit);
        for (Element method : callsOf.keySet()) {
            int deep = deep(method);
            holds("rule 11: calls at most eight deep, " + method + " goes " + deep, deep <= MOST_DEEP, unit);
        }
        // So that a scan that goes by nothing is not taken for a class without a fault.
        holds("calls were seen", callsOf.size() > 42, unit);
        holds("loops were seen", loops > 10, unit);
    }

    private void holds(String rule, boolean holds, Tree where) {
        if (!holds) {
            long at = trees.getSourcePositions().getStartPosition(unit, where);
            Check.due(rule + ", line " + unit.getLineMap().getLineNumber(Math.max(at, 0)), 0, 1);
        }
    }

    private void never(String rule, Tree where) {
        holds(rule, false, where);
    }

    // ---- rules 1 and 2: classes

    @Override
    public Void visitImport(ImportTree tree, Void v) {
        never("rule 4: an import", tree);
        return super.visitImport(tree, v);
    }

    @Override
    public Void visitClass(ClassTree tree, Void v) {
        classes++;
        Set<Modifier> modifiers = tree.getModifiers().getFlags();
        Tree around = getCurrentPath().getParentPath().getLeaf();
        if (around != unit) {
            holds("rule 2: only classes inside a class", around instanceof ClassTree, tree);
            holds("rule 1: static", modifiers.contains(Modifier.STATIC), tree);
            boolean isHidden = !modifiers.contains(Modifier.PUBLIC) && !modifiers.contains(Modifier.PROTECTED);
            holds("rule 1: private or package-visible", isHidden, tree);
        }
        int fields = 0;
        for (Tree member : tree.getMembers()) {
            boolean isBlock = member instanceof BlockTree;
            holds("rule 5: no initialiser block", !isBlock, member);
            boolean isField = member instanceof VariableTree variable
                    && !variable.getModifiers().getFlags().contains(Modifier.STATIC);
            fields += isField ? 1 : 0;
        }
        holds("rule 11: some twenty fields", fields <= MOST_FIELDS, tree);
        return super.visitClass(tree, v);
    }

    @Override
    public Void visitLambdaExpression(LambdaExpressionTree tree, Void v) {
        never("rule 2: a lambda", tree);
        return super.visitLambdaExpression(tree, v);
    }

    @Override
    public Void visitMemberReference(MemberReferenceTree tree, Void v) {
        never("rule 2: a method reference", tree);
        return super.visitMemberReference(tree, v);
    }

    // ---- rules 3 and 5: types, fields

    @Override
    public Void visitVariable(VariableTree tree, Void v) {
        Element element = trees.getElement(getCurrentPath());
        boolean isField = element.getKind() == ElementKind.FIELD;
        if (isField && element.getModifiers().contains(Modifier.STATIC)) {
            holds("rule 5: a static field is final", element.getModifiers().contains(Modifier.FINAL), tree);
            boolean isConstant = ((VariableElement) element).getConstantValue() != null;
            boolean isWrittenOut = tree.getInitializer() instanceof NewArrayTree row
                    && row.getDimensions().isEmpty();
            holds("rule 5: a constant, or an array written out", isConstant || isWrittenOut, tree);
        }
        holds("rule 3: type of " + tree.getName(), mayBe(element.asType()), tree);
        return super.visitVariable(tree, v);
    }

    private boolean mayBe(TypeMirror type) {
        if (type.getKind().isPrimitive() || type.getKind() == TypeKind.VOID) {
            return type.getKind() != TypeKind.DOUBLE && type.getKind() != TypeKind.FLOAT;
        }
        if (type.getKind() == TypeKind.ARRAY) {
            TypeMirror of = ((ArrayType) type).getComponentType();
            return of.getKind().isPrimitive() || isOwn(of);
        }
        return isOwn(type) || type.toString().equals("java.lang.String");
    }

    private static boolean isOwn(TypeMirror type) {
        return type.getKind() == TypeKind.DECLARED
                && (type.toString().equals("ChairDance") || type.toString().startsWith("ChairDance."));
    }

    @Override
    public Void visitArrayType(ArrayTypeTree tree, Void v) {
        holds("rule 3: rows of one dimension", !(tree.getType() instanceof ArrayTypeTree), tree);
        return super.visitArrayType(tree, v);
    }

    @Override
    public Void visitLiteral(LiteralTree tree, Void v) {
        if (tree.getValue() instanceof String text) {
            holds("rule 4: signs 1 to 127", text.chars().allMatch(c -> c >= 1 && c <= 127), tree);
        }
        return super.visitLiteral(tree, v);
    }

    // ---- rules 6, 7, 9 and 10: what may stand in a method

    @Override
    public Void visitThrow(ThrowTree tree, Void v) {
        never("rule 6: throw", tree);
        return super.visitThrow(tree, v);
    }

    @Override
    public Void visitTry(TryTree tree, Void v) {
        never("rule 6: try", tree);
        return super.visitTry(tree, v);
    }

    @Override
    public Void visitCatch(CatchTree tree, Void v) {
        never("rule 6: catch", tree);
        return super.visitCatch(tree, v);
    }

    @Override
    public Void visitSynchronized(SynchronizedTree tree, Void v) {
        never("rule 6: synchronized", tree);
        return super.visitSynchronized(tree, v);
    }

    @Override
    public Void visitAssert(AssertTree tree, Void v) {
        never("rule 6: assert", tree);
        return super.visitAssert(tree, v);
    }

    @Override
    public Void visitInstanceOf(InstanceOfTree tree, Void v) {
        never("rule 6: instanceof, where no class needs it", tree);
        return super.visitInstanceOf(tree, v);
    }

    @Override
    public Void visitTypeCast(TypeCastTree tree, Void v) {
        holds("rule 6: a cast of a number", typeOf(tree).getKind().isPrimitive(), tree);
        return super.visitTypeCast(tree, v);
    }

    @Override
    public Void visitBinary(BinaryTree tree, Void v) {
        boolean ofNumbers = typeOf(tree.getLeftOperand()).getKind().isPrimitive()
                && typeOf(tree.getRightOperand()).getKind().isPrimitive();
        holds("rules 6 and 10: " + tree.getKind() + " of numbers alone", ofNumbers, tree);
        if (tree.getKind() == Tree.Kind.DIVIDE || tree.getKind() == Tree.Kind.REMAINDER) {
            holds("rule 7: a divisor that is never 0", isNumberButNot0(tree.getRightOperand()), tree);
        }
        return super.visitBinary(tree, v);
    }

    @Override
    public Void visitCompoundAssignment(CompoundAssignmentTree tree, Void v) {
        boolean divides = tree.getKind() == Tree.Kind.DIVIDE_ASSIGNMENT
                || tree.getKind() == Tree.Kind.REMAINDER_ASSIGNMENT;
        boolean ofNumbers = typeOf(tree.getVariable()).getKind().isPrimitive();
        holds("rules 7 and 10: " + tree.getKind(), ofNumbers && !divides, tree);
        return super.visitCompoundAssignment(tree, v);
    }

    private TypeMirror typeOf(Tree tree) {
        return trees.getTypeMirror(TreePath.getPath(unit, tree));
    }

    private boolean isNumberButNot0(ExpressionTree tree) {
        Object value = tree instanceof LiteralTree literal ? literal.getValue() : null;
        if (trees.getElement(TreePath.getPath(unit, tree)) instanceof VariableElement named) {
            value = named.getConstantValue();
        }
        return value instanceof Integer number && number != 0;
    }

    @Override
    public Void visitForLoop(ForLoopTree tree, Void v) {
        loops++;
        holds("rule 9: a condition", tree.getCondition() != null, tree);
        holds("rule 9: a counter", tree.getUpdate().size() == 1, tree);
        return super.visitForLoop(tree, v);
    }

    @Override
    public Void visitWhileLoop(WhileLoopTree tree, Void v) {
        loops++;
        holds("rule 9: a condition", !tree.getCondition().toString().contains("true"), tree);
        return super.visitWhileLoop(tree, v);
    }

    @Override
    public Void visitDoWhileLoop(DoWhileLoopTree tree, Void v) {
        loops++;
        holds("rule 9: a condition", !tree.getCondition().toString().contains("true"), tree);
        return super.visitDoWhileLoop(tree, v);
    }

    @Override
    public Void visitEnhancedForLoop(EnhancedForLoopTree tree, Void v) {
        loops++;
        return super.visitEnhancedForLoop(tree, v);
    }

    // ---- rules 4, 8, 11 and 12: methods, calls, what is made

    @Override
    public Void visitMethod(MethodTree tree, Void v) {
        holds("rule 11: at most seven parameters", tree.getParameters().size() <= MOST_PARAMETERS, tree);
        holds("rule 6: throws", tree.getThrows().isEmpty(), tree);
        long first = trees.getSourcePositions().getStartPosition(unit, tree);
        long last = trees.getSourcePositions().getEndPosition(unit, tree);
        if (last >= 0) {
            long lines = 1 + unit.getLineMap().getLineNumber(last) - unit.getLineMap().getLineNumber(first);
            holds("rule 11: some sixty lines", lines <= MOST_LINES, tree);
        }
        Element element = trees.getElement(getCurrentPath());
        callsOf.computeIfAbsent(element, e -> new HashSet<>());
        if (tree.getReturnType() != null) {
            holds("rule 3: type of " + tree.getName(), mayBe(typeOf(tree.getReturnType())), tree);
        }
        List<String> own = List.of("equals", "hashCode", "toString", "finalize", "clone");
        holds("rule 6: none that every object has", !own.contains(tree.getName().toString()), tree);
        return super.visitMethod(tree, v);
    }

    @Override
    public Void visitMethodInvocation(MethodInvocationTree tree, Void v) {
        Element called = trees.getElement(getCurrentPath());
        String owner = called.getEnclosingElement().toString();
        if (owner.equals("ChairDance") || owner.startsWith("ChairDance.")) {
            noteCall(called);
        } else {
            String name = owner + "." + called.getSimpleName();
            boolean isConstructor = called.getKind() == ElementKind.CONSTRUCTOR;
            holds("rule 4: " + name, isConstructor || LIBRARY.contains(name), tree);
        }
        return super.visitMethodInvocation(tree, v);
    }

    @Override
    public Void visitNewClass(NewClassTree tree, Void v) {
        holds("rule 2: an anonymous class", tree.getClassBody() == null, tree);
        holds("rule 4: new " + tree.getIdentifier(), isOwn(typeOf(tree)), tree);
        holds("rule 12: made in a constructor", isMadeOnce(), tree);
        noteCall(trees.getElement(getCurrentPath()));
        return super.visitNewClass(tree, v);
    }

    @Override
    public Void visitNewArray(NewArrayTree tree, Void v) {
        holds("rule 12: made in a constructor", isMadeOnce(), tree);
        for (ExpressionTree length : tree.getDimensions()) {
            boolean isConstant = trees.getElement(TreePath.getPath(unit, length)) instanceof VariableElement named
                    && named.getConstantValue() instanceof Integer number && number >= 0;
            holds("rule 7: a constant length", isConstant, tree);
        }
        return super.visitNewArray(tree, v);
    }

    private boolean isMadeOnce() {
        Element around = methodAround();
        return around == null || around.getKind() == ElementKind.CONSTRUCTOR;
    }

    /** The method that is scanned, or null in what a field begins with. */
    private Element methodAround() {
        for (TreePath path = getCurrentPath(); path != null; path = path.getParentPath()) {
            if (path.getLeaf() instanceof MethodTree) {
                return trees.getElement(path);
            }
        }
        return null;
    }

    private void noteCall(Element called) {
        Element caller = methodAround();
        if (caller != null) {
            callsOf.computeIfAbsent(caller, e -> new HashSet<>()).add(called);
        }
    }

    /** How many methods stand open at once, this one and those below it; none calls itself. */
    private int deep(Element method) {
        if (deepOf.containsKey(method)) {
            return deepOf.get(method);
        }
        if (!open.add(method)) {
            never("rule 8: " + method + " calls itself", unit);
            return 0;
        }
        int deepest = 0;
        for (Element called : new ArrayList<>(callsOf.getOrDefault(method, Set.of()))) {
            deepest = Math.max(deepest, deep(called));
        }
        open.remove(method);
        deepOf.put(method, 1 + deepest);
        return 1 + deepest;
    }
}
