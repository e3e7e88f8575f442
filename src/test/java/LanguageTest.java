import com.sun.source.tree.AssertTree;
import com.sun.source.tree.BinaryTree;
import com.sun.source.tree.BlockTree;
import com.sun.source.tree.ClassTree;
import com.sun.source.tree.CompoundAssignmentTree;
import com.sun.source.tree.DoWhileLoopTree;
import com.sun.source.tree.ForLoopTree;
import com.sun.source.tree.LambdaExpressionTree;
import com.sun.source.tree.LiteralTree;
import com.sun.source.tree.MemberReferenceTree;
import com.sun.source.tree.MethodInvocationTree;
import com.sun.source.tree.MethodTree;
import com.sun.source.tree.NewArrayTree;
import com.sun.source.tree.NewClassTree;
import com.sun.source.tree.SynchronizedTree;
import com.sun.source.tree.ThrowTree;
import com.sun.source.tree.Tree;
import com.sun.source.tree.TryTree;
import com.sun.source.tree.TypeCastTree;
import com.sun.source.tree.VariableTree;
import com.sun.source.tree.WhileLoopTree;
import com.sun.source.util.TreePath;
import com.sun.source.util.TreePathScanner;
import java.util.HashMap;
import java.util.HashSet;
import java.util.LinkedHashSet;
import java.util.Map;
import java.util.Set;
import javax.lang.model.element.Element;
import javax.lang.model.element.ElementKind;
import javax.lang.model.element.Modifier;
import javax.lang.model.type.ArrayType;
import javax.lang.model.type.TypeKind;
import javax.lang.model.type.TypeMirror;

/** The rules of LANGUAGE.md, by their numbers, asked of the program as the compiler reads it. */
public final class LanguageTest extends TreePathScanner<Void, Void> {
    private static final Set<String> LIBRARY = Set.of(
            "java.lang.String.length", "java.lang.String.charAt", "java.lang.Math.min", "java.lang.Math.max",
            "java.lang.System.arraycopy", "java.lang.Object.<init>");
    private static final int MOST_ARGUMENTS = 7, MOST_LINES = 60, MOST_CLASSES = 12, MOST_FIELDS = 20, MOST_DEEP = 8;

    private final Check check = new Check("LanguageTest");
    private final Source source = new Source();
    private final Map<Element, Set<Element>> calls = new HashMap<>();
    private final Set<Element> shown = new LinkedHashSet<>();
    private int classes;

    private LanguageTest() throws Exception {
    }

    public static void main(String[] args) throws Exception {
        LanguageTest test = new LanguageTest();
        test.oneFile();
        test.scan(new TreePath(test.source.unit), null);
        test.howDeep();
        test.check.finish();
    }

    private void rule(int number, String what, boolean so, Tree at) {
        check.holds("rule " + number + ", line " + source.line(at) + ": " + what, so);
    }

    private void oneFile() {
        check.due("rule 1: one class at the top", 1, source.top().size());
        check.holds("the file has no package line", source.unit.getPackage() == null);
        check.due("rule 4: imports", 0, source.unit.getImports().size());
    }

    // ---- classes, fields, methods

    @Override
    public Void visitClass(ClassTree tree, Void none) {
        classes++;
        rule(11, "a class too many", classes <= MOST_CLASSES, tree);
        boolean top = getCurrentPath().getParentPath().getLeaf() == source.unit;
        Set<Modifier> modifiers = tree.getModifiers().getFlags();
        rule(2, tree.getSimpleName() + " is static", top || modifiers.contains(Modifier.STATIC), tree);
        rule(2, tree.getSimpleName() + " is a member", top || parent() instanceof ClassTree, tree);
        rule(1, tree.getSimpleName() + " is hidden", top || !modifiers.contains(Modifier.PUBLIC), tree);
        int fields = 0;
        for (VariableTree field : Source.members(tree, VariableTree.class)) {
            fields += field.getModifiers().getFlags().contains(Modifier.STATIC) ? 0 : 1;
        }
        rule(11, tree.getSimpleName() + " has " + fields + " fields", fields <= MOST_FIELDS, tree);
        for (BlockTree block : Source.members(tree, BlockTree.class)) {
            rule(5, "an initialiser block", false, block);
        }
        return super.visitClass(tree, none);
    }

    @Override
    public Void visitVariable(VariableTree tree, Void none) {
        TypeMirror type = source.type(getCurrentPath());
        rule(3, tree.getName() + " is a " + type, isAllowed(type), tree);
        Set<Modifier> modifiers = tree.getModifiers().getFlags();
        if (modifiers.contains(Modifier.STATIC)) {
            rule(5, tree.getName() + " is final", modifiers.contains(Modifier.FINAL), tree);
            rule(5, tree.getName() + " is a number", type.getKind() == TypeKind.INT, tree);
        }
        return super.visitVariable(tree, none);
    }

    @Override
    public Void visitMethod(MethodTree tree, Void none) {
        Element method = source.element(getCurrentPath());
        calls.computeIfAbsent(method, m -> new HashSet<>());
        if (tree.getModifiers().getFlags().contains(Modifier.PUBLIC)) {
            shown.add(method);
        }
        rule(6, tree.getName() + " throws nothing", tree.getThrows().isEmpty(), tree);
        boolean locks = tree.getModifiers().getFlags().contains(Modifier.SYNCHRONIZED);
        rule(6, tree.getName() + " is synchronized", !locks, tree);
        rule(11, tree.getName() + " takes too many", tree.getParameters().size() <= MOST_ARGUMENTS, tree);
        rule(11, tree.getName() + " has " + source.lines(tree) + " lines", source.lines(tree) <= MOST_LINES, tree);
        return super.visitMethod(tree, none);
    }

    /** A number, an own class, a text, or a row of one of these. */
    private static boolean isAllowed(TypeMirror type) {
        if (type.getKind() == TypeKind.ARRAY) {
            TypeMirror of = ((ArrayType) type).getComponentType();
            return of.getKind() != TypeKind.ARRAY && isAllowed(of);
        }
        String name = type.toString();
        return type.getKind().isPrimitive() || name.equals("java.lang.String") || name.startsWith("LetsIn");
    }

    // ---- what is called and made

    @Override
    public Void visitMethodInvocation(MethodInvocationTree tree, Void none) {
        Element called = source.element(getCurrentPath());
        String name = called.getEnclosingElement() + "." + called.getSimpleName();
        Element caller = caller();
        if (name.startsWith("LetsIn")) {
            rule(12, "a method is called as an object is made", isMethod(caller), tree);
            calls.computeIfAbsent(caller, m -> new HashSet<>()).add(called);
        } else {
            rule(4, name + " is in the library", LIBRARY.contains(name), tree);
        }
        return super.visitMethodInvocation(tree, none);
    }

    private static boolean isMethod(Element caller) {
        return caller != null && caller.getKind() == ElementKind.METHOD;
    }

    /** The method, or the constructor, in which it stands; null in a field. */
    private Element caller() {
        for (TreePath path = getCurrentPath(); path != null; path = path.getParentPath()) {
            if (path.getLeaf() instanceof MethodTree) {
                return source.element(path);
            }
        }
        return null;
    }

    private Tree parent() {
        return getCurrentPath().getParentPath().getLeaf();
    }

    @Override
    public Void visitNewClass(NewClassTree tree, Void none) {
        String made = source.type(getCurrentPath()).toString();
        rule(2, "a class without a name", tree.getClassBody() == null, tree);
        rule(4, made + " is made", made.startsWith("LetsIn."), tree);
        rule(12, "an object is made by a call: no row is used again", !isMethod(caller()), tree);
        rule(12, "something of the object is handed out as it is made", tree.getArguments().isEmpty(), tree);
        return super.visitNewClass(tree, none);
    }

    @Override
    public Void visitNewArray(NewArrayTree tree, Void none) {
        rule(3, "a row of " + tree.getType(), isAllowed(source.type(getCurrentPath())), tree);
        rule(12, "a row is made by a call", !isMethod(caller()), tree);
        return super.visitNewArray(tree, none);
    }

    // ---- what may not stand in it

    @Override
    public Void visitLambdaExpression(LambdaExpressionTree tree, Void none) {
        rule(2, "a lambda", false, tree);
        return null;
    }

    @Override
    public Void visitMemberReference(MemberReferenceTree tree, Void none) {
        rule(2, "a method reference", false, tree);
        return null;
    }

    @Override
    public Void visitThrow(ThrowTree tree, Void none) {
        rule(6, "throw", false, tree);
        return null;
    }

    @Override
    public Void visitTry(TryTree tree, Void none) {
        rule(6, "try", false, tree);
        return null;
    }

    @Override
    public Void visitSynchronized(SynchronizedTree tree, Void none) {
        rule(6, "synchronized", false, tree);
        return null;
    }

    @Override
    public Void visitAssert(AssertTree tree, Void none) {
        rule(6, "assert", false, tree);
        return null;
    }

    @Override
    public Void visitTypeCast(TypeCastTree tree, Void none) {
        rule(6, "a cast that could fail", source.type(getCurrentPath()).getKind().isPrimitive(), tree);
        return super.visitTypeCast(tree, none);
    }

    @Override
    public Void visitLiteral(LiteralTree tree, Void none) {
        if (tree.getValue() instanceof String) {
            rule(4, "signs 1 to 127", ((String) tree.getValue()).matches("[\\x01-\\x7f]*"), tree);
        }
        return super.visitLiteral(tree, none);
    }

    @Override
    public Void visitBinary(BinaryTree tree, Void none) {
        boolean number = source.type(getCurrentPath()).getKind().isPrimitive();
        rule(10, "texts are joined by +", number, tree);
        if (tree.getKind() == Tree.Kind.EQUAL_TO || tree.getKind() == Tree.Kind.NOT_EQUAL_TO) {
            TypeMirror of = source.type(new TreePath(getCurrentPath(), tree.getLeftOperand()));
            rule(6, "two texts by ==", !of.toString().startsWith("java."), tree);
        }
        if (tree.getKind() == Tree.Kind.DIVIDE || tree.getKind() == Tree.Kind.REMAINDER) {
            rule(7, "a divisor that is no constant", isConstant(tree.getRightOperand().toString()), tree);
        }
        return super.visitBinary(tree, none);
    }

    @Override
    public Void visitCompoundAssignment(CompoundAssignmentTree tree, Void none) {
        boolean divides = tree.getKind() == Tree.Kind.DIVIDE_ASSIGNMENT || tree.getKind() == Tree.Kind.REMAINDER_ASSIGNMENT;
        rule(7, "a divisor that is no constant", !divides || isConstant(tree.getExpression().toString()), tree);
        return super.visitCompoundAssignment(tree, none);
    }

    private static boolean isConstant(String divisor) {
        return divisor.matches("[(]?[A-Z_1-9][A-Z_0-9]*( [+] [0-9]+)?[)]?");
    }

    // ---- loops and calls that end

    @Override
    public Void visitForLoop(ForLoopTree tree, Void none) {
        rule(9, "a loop without an end", tree.getCondition() != null && !tree.getUpdate().isEmpty(), tree);
        return super.visitForLoop(tree, none);
    }

    @Override
    public Void visitWhileLoop(WhileLoopTree tree, Void none) {
        rule(9, "a loop without a bound", tree.getCondition().toString().matches(".*[<>].*"), tree);
        return super.visitWhileLoop(tree, none);
    }

    @Override
    public Void visitDoWhileLoop(DoWhileLoopTree tree, Void none) {
        rule(9, "a loop without a bound", tree.getCondition().toString().matches(".*[<>].*"), tree);
        return super.visitDoWhileLoop(tree, none);
    }

    private void howDeep() {
        check.due("rule 1: the calls and the constructor", 40 + 1, shown.size());
        Set<Element> called = new HashSet<>(shown);
        for (Element method : calls.keySet()) {
            int deep = deepFrom(method, new HashSet<>());
            check.holds("rule 11: " + method + " goes " + deep + " deep", deep <= MOST_DEEP);
            called.addAll(calls.get(method));
        }
        for (Element method : calls.keySet()) {
            check.holds(method + " is called by nobody", called.contains(method) || !isMethod(method));
        }
    }

    private int deepFrom(Element method, Set<Element> open) {
        boolean isNew = open.add(method);
        check.holds("rule 8: " + method + " calls itself", isNew);
        if (!isNew) {
            return 1;
        }
        int deepest = 0;
        for (Element called : calls.getOrDefault(method, Set.of())) {
            deepest = Math.max(deepest, deepFrom(called, open));
        }
        open.remove(method);
        return deepest + 1;
    }
}
