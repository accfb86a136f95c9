import com.sun.source.tree.AssertTree;
import com.sun.source.tree.AssignmentTree;
import com.sun.source.tree.BinaryTree;
import com.sun.source.tree.BlockTree;
import com.sun.source.tree.ClassTree;
import com.sun.source.tree.CompilationUnitTree;
import com.sun.source.tree.CompoundAssignmentTree;
import com.sun.source.tree.DoWhileLoopTree;
import com.sun.source.tree.EnhancedForLoopTree;
import com.sun.source.tree.ExpressionTree;
import com.sun.source.tree.ForLoopTree;
import com.sun.source.tree.ImportTree;
import com.sun.source.tree.InstanceOfTree;
import com.sun.source.tree.LambdaExpressionTree;
import com.sun.source.tree.MemberReferenceTree;
import com.sun.source.tree.MethodInvocationTree;
import com.sun.source.tree.MethodTree;
import com.sun.source.tree.NewArrayTree;
import com.sun.source.tree.NewClassTree;
import com.sun.source.tree.PackageTree;
import com.sun.source.tree.StatementTree;
import com.sun.source.tree.SynchronizedTree;
import com.sun.source.tree.ThrowTree;
import com.sun.source.tree.Tree;
import com.sun.source.tree.TryTree;
import com.sun.source.tree.TypeCastTree;
import com.sun.source.tree.UnaryTree;
import com.sun.source.tree.VariableTree;
import com.sun.source.tree.WhileLoopTree;
import com.sun.source.util.TreePath;
import com.sun.source.util.TreePathScanner;
import com.sun.source.util.TreeScanner;
import com.sun.source.util.Trees;
import java.util.ArrayList;
import java.util.LinkedHashMap;
import java.util.List;
import java.util.Map;
import java.util.Set;
import java.util.TreeSet;
import javax.lang.model.element.Element;
import javax.lang.model.element.ElementKind;
import javax.lang.model.element.Modifier;
import javax.lang.model.type.ArrayType;
import javax.lang.model.type.TypeKind;
import javax.lang.model.type.TypeMirror;

/**
 * Walks over the class's tree and notes what LANGUAGE.md rules out. Where the class needs less than the
 * rules leave (no while, no double, no object made by a call), it notes what goes beyond that.
 */
final class LanguageScan extends TreePathScanner<Void, Void> {
    private static final int MOST_PARAMETERS = 7, MOST_LINES = 60, MOST_FIELDS = 20;
    private static final Set<TypeKind> NUMBERS = Set.of(TypeKind.INT, TypeKind.LONG, TypeKind.SHORT, TypeKind.BYTE, TypeKind.CHAR);
    private static final Set<String> MATH = Set.of("max", "min", "abs", "floorDiv", "floorMod", "compare", "bitCount");

    final List<String> faults = new ArrayList<>();
    /** By method: those that it calls. */
    final Map<Element, Set<Element>> calls = new LinkedHashMap<>();
    final Map<Element, MethodTree> methods = new LinkedHashMap<>();
    int classes = 0;

    private final Trees trees;
    private CompilationUnitTree unit;
    private final String outer;

    LanguageScan(Trees trees, String outer) {
        this.trees = trees;
        this.outer = outer;
    }

    void walk(CompilationUnitTree file) {
        unit = file;
        scan(file, null);
    }

    private Void fault(int rule, String what, Tree at) {
        long line = unit.getLineMap().getLineNumber(start(at));
        faults.add("rule " + rule + ", line " + line + ": " + what);
        return null;
    }

    private long start(Tree at) {
        return trees.getSourcePositions().getStartPosition(unit, at);
    }

    private long linesOf(Tree tree) {
        long end = trees.getSourcePositions().getEndPosition(unit, tree);
        return unit.getLineMap().getLineNumber(end) - unit.getLineMap().getLineNumber(start(tree)) + 1;
    }

    private TypeMirror typeOf(Tree tree) {
        return trees.getTypeMirror(new TreePath(getCurrentPath(), tree));
    }

    private Element elementOf(Tree tree) {
        return trees.getElement(new TreePath(getCurrentPath(), tree));
    }

    private boolean isOwn(TypeMirror type) {
        return type.toString().equals(outer) || type.toString().startsWith(outer + ".");
    }

    private boolean isOwn(Element element) {
        for (Element e = element; e != null; e = e.getEnclosingElement()) {
            if (e.getKind().isClass() && isOwn(e.asType())) return true;
        }
        return false;
    }

    /** The method that the walk is in; null in a field's initialiser. */
    private Element methodAround() {
        for (TreePath path = getCurrentPath(); path != null; path = path.getParentPath()) {
            if (path.getLeaf() instanceof MethodTree) return trees.getElement(path);
        }
        return null;
    }

    // ---- rules 1 and 2: classes

    @Override public Void visitPackage(PackageTree tree, Void none) {
        return fault(0, "a package line", tree);
    }

    @Override public Void visitImport(ImportTree tree, Void none) {
        return fault(4, "an import: the class needs none", tree);
    }

    @Override public Void visitClass(ClassTree tree, Void none) {
        classes++;
        Element self = trees.getElement(getCurrentPath());
        boolean isOuter = self.getEnclosingElement().getKind() == ElementKind.PACKAGE;
        if (!isOuter && !self.getModifiers().contains(Modifier.STATIC)) fault(2, "a class that is not static", tree);
        if (!isOuter && !self.getEnclosingElement().getKind().isClass()) fault(2, "a local class", tree);
        if (!self.getModifiers().contains(Modifier.FINAL)) fault(1, "a class that is not final", tree);
        int fields = 0;
        for (Tree member : tree.getMembers()) {
            if (member instanceof BlockTree) fault(5, "an initialiser block", member);
            if (member instanceof VariableTree field && !field.getModifiers().getFlags().contains(Modifier.STATIC)) fields++;
        }
        if (fields > MOST_FIELDS) fault(11, fields + " fields", tree);
        return super.visitClass(tree, none);
    }

    @Override public Void visitLambdaExpression(LambdaExpressionTree tree, Void none) {
        return fault(2, "a lambda", tree);
    }

    @Override public Void visitMemberReference(MemberReferenceTree tree, Void none) {
        return fault(2, "a method reference", tree);
    }

    // ---- rules 3 and 5: types and static fields

    @Override public Void visitVariable(VariableTree tree, Void none) {
        Element self = trees.getElement(getCurrentPath());
        checkType(self.asType(), tree);
        if (self.getKind() == ElementKind.FIELD && self.getModifiers().contains(Modifier.STATIC)) {
            if (!self.getModifiers().contains(Modifier.FINAL)) fault(5, "a static field that is not final", tree);
            if (!self.asType().getKind().isPrimitive()) fault(5, "a static field that is no number", tree);
        }
        return super.visitVariable(tree, none);
    }

    private void checkType(TypeMirror type, Tree at) {
        TypeMirror inner = type.getKind() == TypeKind.ARRAY ? ((ArrayType) type).getComponentType() : type;
        TypeKind kind = inner.getKind();
        if (!NUMBERS.contains(kind) && kind != TypeKind.BOOLEAN && !isOwn(inner)) fault(3, "the type " + type, at);
    }

    // ---- rules 4, 6 and 12: calls and what is made

    @Override public Void visitMethodInvocation(MethodInvocationTree tree, Void none) {
        Element called = elementOf(tree.getMethodSelect());
        Element caller = methodAround();
        boolean isImplied = called.getKind() == ElementKind.CONSTRUCTOR;
        if (isOwn(called)) {
            if (caller != null) calls.get(caller).add(called);
        } else if (!isImplied && !isListed(called)) {
            fault(4, "a call of " + called.getEnclosingElement() + "." + called, tree);
        }
        return super.visitMethodInvocation(tree, none);
    }

    private static boolean isListed(Element called) {
        String owner = called.getEnclosingElement().toString();
        boolean hasStatics = owner.equals("java.lang.Math") || owner.equals("java.lang.Integer") || owner.equals("java.lang.Long");
        return hasStatics && MATH.contains(called.getSimpleName().toString());
    }

    @Override public Void visitNewClass(NewClassTree tree, Void none) {
        if (tree.getClassBody() != null) fault(2, "an anonymous class", tree);
        if (!isOwn(typeOf(tree))) fault(4, "an object of " + typeOf(tree), tree);
        if (methodAround() != null) fault(12, "an object made by a call", tree);
        return super.visitNewClass(tree, none);
    }

    @Override public Void visitNewArray(NewArrayTree tree, Void none) {
        if (methodAround() != null) fault(12, "an array made by a call", tree);
        return super.visitNewArray(tree, none);
    }

    @Override public Void visitThrow(ThrowTree tree, Void none) {
        return fault(6, "throw", tree);
    }

    @Override public Void visitTry(TryTree tree, Void none) {
        return fault(6, "try", tree);
    }

    @Override public Void visitSynchronized(SynchronizedTree tree, Void none) {
        return fault(6, "synchronized", tree);
    }

    @Override public Void visitAssert(AssertTree tree, Void none) {
        return fault(6, "assert", tree);
    }

    @Override public Void visitInstanceOf(InstanceOfTree tree, Void none) {
        return fault(6, "instanceof: the class needs none", tree);
    }

    @Override public Void visitTypeCast(TypeCastTree tree, Void none) {
        if (!typeOf(tree).getKind().isPrimitive()) fault(6, "a cast to " + typeOf(tree), tree);
        return super.visitTypeCast(tree, none);
    }

    @Override public Void visitBinary(BinaryTree tree, Void none) {
        if (!typeOf(tree).getKind().isPrimitive()) fault(10, "texts joined by +", tree);
        boolean ofNumbers = typeOf(tree.getLeftOperand()).getKind().isPrimitive()
            && typeOf(tree.getRightOperand()).getKind().isPrimitive();
        if (!ofNumbers) fault(6, "objects compared", tree);
        if (tree.getKind() == Tree.Kind.DIVIDE || tree.getKind() == Tree.Kind.REMAINDER) checkDivisor(tree);
        return super.visitBinary(tree, none);
    }

    // ---- rule 7: divisors

    /** A written number above 0; or far()'s argument, which far() looks at in its first line. */
    private void checkDivisor(BinaryTree tree) {
        String divisor = tree.getRightOperand().toString();
        boolean written = divisor.matches("[1-9][0-9]*L?");
        boolean ofFar = divisor.equals("by") && methodAround().getSimpleName().contentEquals("far");
        if (!written && !ofFar) fault(7, "a division by " + divisor, tree);
    }

    // ---- rule 9: loops

    @Override public Void visitWhileLoop(WhileLoopTree tree, Void none) {
        return fault(9, "while: the class needs none", tree);
    }

    @Override public Void visitDoWhileLoop(DoWhileLoopTree tree, Void none) {
        return fault(9, "do: the class needs none", tree);
    }

    @Override public Void visitEnhancedForLoop(EnhancedForLoopTree tree, Void none) {
        return fault(9, "for over a row: the class needs none", tree);
    }

    @Override public Void visitForLoop(ForLoopTree tree, Void none) {
        List<? extends StatementTree> first = tree.getInitializer();
        boolean oneCounter = first.size() == 1 && first.get(0) instanceof VariableTree && tree.getUpdate().size() == 1;
        String counter = oneCounter ? ((VariableTree) first.get(0)).getName().toString() : "";
        if (!oneCounter || tree.getCondition() == null) return fault(9, "a for without a counter and a bound", tree);
        if (!tree.getUpdate().get(0).toString().matches(counter + "\\+\\+;?")) fault(9, "a counter that is not counted up", tree);
        if (!tree.getCondition().toString().matches("\\(?" + counter + " <=? .*")) fault(9, "no bound for the counter", tree);
        if (tree.getCondition().toString().contains("||")) fault(9, "a bound that may be passed", tree);
        if (assigned(tree.getStatement()).contains(counter)) fault(9, "the counter is set within the loop", tree);
        return super.visitForLoop(tree, none);
    }

    /** Names of all that is set in a statement. */
    private static Set<String> assigned(Tree statement) {
        Set<String> names = new TreeSet<>();
        new TreeScanner<Void, Void>() {
            @Override public Void visitAssignment(AssignmentTree tree, Void none) {
                return add(tree.getVariable());
            }

            @Override public Void visitCompoundAssignment(CompoundAssignmentTree tree, Void none) {
                return add(tree.getVariable());
            }

            @Override public Void visitUnary(UnaryTree tree, Void none) {
                boolean reads = tree.getKind() == Tree.Kind.LOGICAL_COMPLEMENT || tree.getKind() == Tree.Kind.UNARY_MINUS;
                return reads ? super.visitUnary(tree, none) : add(tree.getExpression());
            }

            private Void add(ExpressionTree variable) {
                names.add(variable.toString());
                return null;
            }
        }.scan(statement, null);
        return names;
    }

    // ---- rules 8 and 11: methods

    @Override public Void visitMethod(MethodTree tree, Void none) {
        Element self = trees.getElement(getCurrentPath());
        methods.put(self, tree);
        calls.put(self, new TreeSet<>((a, b) -> nameOf(a).compareTo(nameOf(b))));
        if (tree.getParameters().size() > MOST_PARAMETERS) fault(11, "more than seven parameters", tree);
        if (start(tree) >= 0 && linesOf(tree) > MOST_LINES) fault(11, linesOf(tree) + " lines", tree);
        if (tree.getReturnType() != null && typeOf(tree.getReturnType()).getKind() != TypeKind.VOID) checkType(typeOf(tree.getReturnType()), tree);
        return super.visitMethod(tree, none);
    }

    static String nameOf(Element method) {
        return method.getEnclosingElement().getSimpleName() + "." + method;
    }
}
